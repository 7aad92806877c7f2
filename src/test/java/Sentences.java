import java.io.IOException;
import java.nio.file.Files;
import java.nio.file.Path;
import java.util.ArrayList;
import java.util.Arrays;
import java.util.LinkedHashMap;
import java.util.List;
import java.util.Map;

/** A check whose answers each belong to a sentence of the document, which is told with a wrong one. */
final class Sentences {
    private static final Path DOCUMENT = Path.of("../shared/DOC.md");
    // The title has no sentence; the face has FaceTest; what is not promised can't be broken.
    private static final List<String> OTHER_PARTS = List.of("# ReplayedBeans", "The public face", "Not promised");

    private final Check check = new Check();
    private final Map<String, List<String>> quoted = new LinkedHashMap<>();
    private String now = "";

    /** Some calls on an object. */
    interface Calls {
        void on(ReplayedBeans beans);
    }

    /** The answers from here on are of this sentence, which stands in a part of the document. */
    void of(String part, String words) {
        now = part + ", \"" + words + "\": ";
        quoted.computeIfAbsent(part, p -> new ArrayList<>()).add(words);
    }

    void due(String call, long got, long want) {
        check.due(now + call, got, want);
    }

    void due(String call, boolean got, boolean want) {
        check.due(now + call, got, want);
    }

    void due(String call, String got, String want) {
        check.due(now + call, got, want);
    }

    /** Object o's kind, numbers and links, as Check.show tells them. */
    void dueObject(ReplayedBeans beans, int o, String want) {
        due("object " + o, Check.show(beans, o), want);
    }

    void dueWritten(ReplayedBeans beans, int r, String want) {
        due("write(" + r + ") of " + want, beans.write(r), want.length());
        due("text after write(" + r + ")", Check.textOf(beans), want);
    }

    /** What a reading answers, and the places of its failures. */
    void dueRead(ReplayedBeans beans, String text, int want, String places) {
        due("read() of " + text, Check.readAll(beans, text), want);
        due("failures of " + text, Check.failuresOf(beans), places);
    }

    /** That the calls answer from then on as if the refused ones had not been. */
    void changesNothing(String what, Calls before, Calls refused) {
        ReplayedBeans asked = new ReplayedBeans();
        before.on(asked);
        refused.on(asked);
        ReplayedBeans spared = new ReplayedBeans();
        before.on(spared);
        List<String> got = new Afterwards(asked).answers();
        List<String> want = new Afterwards(spared).answers();
        for (int i = 0; i < want.size(); i++) {
            String call = i < got.size() ? got.get(i) : "nothing";
            due("after " + what + ", call " + i, call, want.get(i));
            if (!call.equals(want.get(i))) {
                return;
            }
        }
    }

    /** Looks up every quote, and that no sentence that says what the class does goes without one. */
    void finish() {
        if (Files.isReadable(DOCUMENT)) {
            Map<String, String> parts = partsOfDocument();
            for (Map.Entry<String, List<String>> entry : quoted.entrySet()) {
                lookUp(entry.getKey(), parts.getOrDefault(entry.getKey(), ""), entry.getValue());
            }
            for (String part : parts.keySet()) {
                boolean told = !OTHER_PARTS.contains(part);
                check.due(part + " has tests", quoted.containsKey(part) || !told, true);
            }
        } else {
            System.out.println("no " + DOCUMENT + " here: the quotes are not looked up");
        }
        check.finish();
    }

    private void lookUp(String part, String text, List<String> quotes) {
        char[] left = text.toCharArray();
        for (String words : quotes) {
            int found = text.indexOf(words);
            check.due(part + " says \"" + words + "\"", found >= 0, true);
            if (found >= 0) {
                Arrays.fill(left, found, found + words.length(), ' ');
            }
        }
        check.due(part + ": sentences without a test", oneLine(new String(left)), "");
    }

    /** The parts by what stands before the colon in their headings, without the calls' signatures. */
    private static Map<String, String> partsOfDocument() {
        Map<String, String> parts = new LinkedHashMap<>();
        for (String part : documentText().split("\n## ")) {
            int end = part.indexOf('\n');
            String heading = end < 0 ? part : part.substring(0, end);
            String body = end < 0 ? "" : part.substring(end);
            body = body.replaceAll("```(text|java)?", " ").replaceAll("`[^`]*`:", " ");
            parts.put(heading.split(":")[0].strip(), oneLine(body));
        }
        return parts;
    }

    private static String documentText() {
        try {
            return Files.readString(DOCUMENT);
        } catch (IOException unreadable) {
            throw new IllegalStateException(unreadable);
        }
    }

    private static String oneLine(String text) {
        return text.replaceAll("\\s+", " ").strip();
    }
}

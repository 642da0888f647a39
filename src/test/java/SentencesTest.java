import java.nio.charset.StandardCharsets;
import java.nio.file.Files;
import java.nio.file.Path;
import java.util.Arrays;
import java.util.Map;
import java.util.TreeMap;

/**
 * Each sentence of DOC.md is told by its own words and asked of the class; then the words themselves
 * are looked for in DOC.md, so that none is made up and none is left out, from its first line to its last.
 */
public final class SentencesTest {
    private static final Map<Integer, String> WORDS = new TreeMap<>();
    private static final Map<Integer, boolean[]> TOLD = new TreeMap<>();
    private static int wrong = 0;

    private static String plain(String text) {
        return text.replaceAll("```text|```java|```|={3,} \\d", " ").replaceAll("\\s+", " ");
    }

    private static void notSo(String what) {
        wrong++;
        System.out.println("not so: " + what);
    }

    // A promise's head names its call as the face does: "Promise 2: person", `int person(int skill)`.
    private static void readPromise(String head, String words) {
        String name = head.endsWith(": A new object") ? "OwedDays" : head.substring(head.indexOf(": ") + 2);
        String call = words.substring(words.indexOf('`') + 1, words.indexOf("`:"));
        if (!(" " + call).contains(" " + name + "(")) {
            notSo(head + " promises " + call);
        }
        if (!WORDS.get(Sentences.FACE).contains("public " + call + ";")) {
            notSo("the face has no " + call);
        }
        WORDS.put(Integer.parseInt(head.substring(8, head.indexOf(':'))), plain(words.substring(words.indexOf("`:") + 2)));
    }

    private static void readDocument(String document) {
        String[] parts = document.split("\n## ");
        for (String part : parts) {
            int lineEnd = part.indexOf('\n');
            String head = part.substring(0, lineEnd);
            String words = part.substring(lineEnd);
            if (head.equals("What it is")) {
                WORDS.put(Sentences.WHAT_IT_IS, plain(words));
            } else if (head.equals("The public face")) {
                WORDS.put(Sentences.FACE, plain(words));
            } else if (head.equals("Terms")) {
                int ahead = words.indexOf("Ahead of the calls");
                WORDS.put(Sentences.TERMS, plain(words.substring(0, ahead)));
                WORDS.put(Sentences.AHEAD, plain(words.substring(ahead)));
            } else if (head.equals("Not promised")) {
                WORDS.put(Sentences.NOT_PROMISED, plain(words));
            } else if (head.startsWith("Promise ")) {
                readPromise(head, words);
            } else if (!head.equals("# OwedDays") && !part.trim().equals("# OwedDays")) {
                notSo("no test tells of the heading \"" + head + "\"");
            }
        }
        for (Map.Entry<Integer, String> part : WORDS.entrySet()) {
            TOLD.put(part.getKey(), new boolean[part.getValue().length()]);
        }
    }

    private static void mark(int promise, String quote) {
        String words = WORDS.get(promise);
        int at = words == null ? -1 : words.indexOf(quote);
        if (at < 0) {
            notSo(Sentences.place(promise) + " does not say \"" + quote + "\"");
        }
        for (; at >= 0; at = words.indexOf(quote, at + 1)) {
            Arrays.fill(TOLD.get(promise), at, at + quote.length(), true);
        }
    }

    private static void lookForWhatIsLeftOut() {
        for (Map.Entry<Integer, String> part : WORDS.entrySet()) {
            StringBuilder left = new StringBuilder();
            boolean[] told = TOLD.get(part.getKey());
            for (int at = 0; at < told.length; at++) {
                left.append(told[at] ? '\n' : part.getValue().charAt(at));
            }
            for (String words : left.toString().split("\n+")) {
                String rest = words.trim();
                if (!rest.isEmpty()) {
                    notSo("no test tells of " + Sentences.place(part.getKey()) + ", \"" + rest + "\"");
                }
            }
        }
    }

    private static void compareWith(String document) {
        readDocument(document);
        for (int i = 0; i < Sentences.quotes.size(); i++) {
            mark(Sentences.promises.get(i), Sentences.quotes.get(i));
        }
        lookForWhatIsLeftOut();
    }

    private static void tellWhatWasRun() {
        for (int i = 0; i < Sentences.quotes.size(); i++) {
            String quote = Sentences.quotes.get(i);
            System.out.println(Sentences.place(Sentences.promises.get(i)) + ": " + Sentences.looked.get(i) + " answers by \"" + quote + "\"");
            if (Sentences.looked.get(i) == 0) {
                notSo("nothing is asked by \"" + quote + "\"");
            }
        }
    }

    public static void main(String[] args) throws Exception {
        SentencesOfWhole.all();
        SentencesOfPeople.all();
        SentencesOfLaw.all();
        SentencesOfDays.all();
        SentencesOfThought.all();
        SentencesOfDeeds.all();
        SentencesOfBooks.all();
        SentencesOfActs.all();
        SentencesOfShelves.all();
        Path document = Path.of(System.getProperty("owed.document", "../shared/DOC.md"));
        tellWhatWasRun();
        if (Files.isReadable(document)) {
            compareWith(Files.readString(document, StandardCharsets.UTF_8));
        } else {
            System.out.println("the sentences' words were not compared with the document, which is not at " + document);
        }
        System.out.println(Sentences.quotes.size() + " sentences, " + (wrong + Sentences.wrong) + " not so");
        if (wrong + Sentences.wrong != 0) {
            System.exit(1);
        }
    }
}

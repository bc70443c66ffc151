import java.io.IOException;
import java.nio.file.Files;
import java.nio.file.Path;
import java.util.HashMap;
import java.util.Map;
import java.util.function.Supplier;
import java.util.function.ToIntFunction;

/**
 * Sentences of the document, each held by a test of its own, which names its promise. A sentence
 * must stand in the document word for word, and each word of a section must be in some sentence:
 * so none is left without a test, and none is tested that is not there.
 */
final class Sentences {
    static final String I = "Terms I";
    static final String II = "Terms II";
    static final String III = "Terms III";
    static final String IMAGE = "Terms THE IMAGE";
    static final String HEAD = "What it is";

    static final int LEAST = Integer.MIN_VALUE;
    static final int GREATEST = Integer.MAX_VALUE;
    /** 32 and 44 wrap round to 0 and 12 where a number shifts. */
    static final int[] NO_BOOKS = {-1, 2, 3, 32, 33, LEAST, LEAST + 1, GREATEST};
    static final int[] NO_WORDS = {-1, 12, 13, 31, 32, 43, LEAST, GREATEST};
    static final int[] NO_SETS = {-1, 4096, 4097, 8191, LEAST, LEAST + 1, GREATEST};
    static final int[] NO_WHATS = {-1, LEAST, GREATEST, 256, 257};

    private static final Map<String, String> TEXTS = new HashMap<>();
    private static final Map<String, boolean[]> HELD = new HashMap<>();

    private Sentences() {
    }

    static void holds(int promise, String sentence, Runnable test) {
        holds(promise, promise(promise), sentence, test);
    }

    static void holds(int promise, String section, String sentence, Runnable test) {
        String place = section.equals(promise(promise)) ? "" : ", " + section;
        String name = promise(promise) + place + ", \"" + sentence + "\"";
        mark(section, sentence);
        Due.name(name + ": ");
        int wrong = Due.howManyWrong();
        int asked = Due.howManyAsked();
        test.run();
        Due.due("this test asks nothing", Due.howManyAsked() > asked ? 0 : 1, 0);
        System.out.println((Due.howManyWrong() == wrong ? "holds: " : "BROKEN: ") + name);
        Due.name("");
    }

    /** Ends the test; each word of these sections must have been in some sentence. */
    static void end(String... sections) {
        for (String section : sections) {
            String text = text(section);
            boolean[] held = HELD.getOrDefault(section, new boolean[text.length()]);
            StringBuilder left = new StringBuilder();
            for (int i = 0; i < text.length(); i++) {
                boolean word = Character.isLetterOrDigit(text.charAt(i));
                left.append(word && !held[i] ? text.substring(i, i + 1) : "");
            }
            Due.due(section + " has words in no sentence: " + left, left.length(), 0);
        }
        Due.end();
    }

    private static String promise(int number) {
        return "Promise " + number;
    }

    private static void mark(String section, String sentence) {
        String text = text(section);
        int from = text.indexOf(sentence);
        Due.due(section + " says \"" + sentence + "\" once", from >= 0 && text.indexOf(sentence, from + 1) < 0 ? 1 : 0, 1);
        boolean[] held = HELD.computeIfAbsent(section, key -> new boolean[text.length()]);
        for (int i = 0; from >= 0 && i < sentence.length(); i++) {
            held[from + i] = true;
        }
    }

    private static String text(String section) {
        if (TEXTS.isEmpty()) {
            readDocument();
        }
        return TEXTS.getOrDefault(section, "");
    }

    private static void readDocument() {
        String document;
        try {
            document = Files.readString(Path.of("../shared/DOC.md"));
        } catch (IOException e) {
            throw new IllegalStateException("../shared/DOC.md can not be read", e);
        }
        for (String part : document.split("\n## ")) {
            String title = part.contains("\n") ? part.substring(0, part.indexOf('\n')) : part;
            String body = part.substring(title.length()).replaceAll("(?s)```java.*?```|```text|```", " ");
            String text = body.replaceAll("`[^`]*`:", " ").replaceAll("\\s+", " ");
            TEXTS.put(title.replaceAll(":.*", ""), text);
        }
        String terms = TEXTS.get("Terms");
        int two = terms.indexOf("==== II.");
        int three = terms.indexOf("==== III.");
        int image = terms.indexOf("THE IMAGE:");
        TEXTS.put(I, terms.substring(0, two));
        TEXTS.put(II, terms.substring(two, three));
        TEXTS.put(III, terms.substring(three, image));
        TEXTS.put(IMAGE, terms.substring(image));
    }

    /** The call is refused: its number is counted once, and nothing else changes. */
    static void refused(String call, int number, Supplier<WordsTold> made, ToIntFunction<WordsTold> asked) {
        leaves(call, number, made, asked, made);
    }

    /** The call answers this, and the object is then like the other one, but for a refusal counted. */
    static void leaves(String call, int answer, Supplier<WordsTold> made, ToIntFunction<WordsTold> asked,
        Supplier<WordsTold> other) {
        WordsTold x = made.get();
        WordsTold y = other.get();
        Due.due(call, asked.applyAsInt(x), answer);
        for (int number = 1; number <= 6; number++) {
            int more = answer == -number ? 1 : 0;
            Due.due(call + ": how many more count(1" + number + ") has", x.count(10 + number) - y.count(10 + number), more);
        }
        String seen = look(x);
        String due = look(y);
        Due.due(call + ": it looks like " + seen + ", due is " + due, seen.equals(due) ? 1 : 0, 1);
    }

    /** All that calls show of an object but the refusals; it is no use behind this. */
    private static String look(WordsTold x) {
        StringBuilder seen = new StringBuilder();
        lookAtBooks(x, seen, 4);
        lookAtWords(x, seen);
        for (int book = 0; book < 2; book++) {
            for (int word = 0; word < 12; word++) {
                seen.append(x.word(book, word, 0, 0)).append('/').append(x.word(book, word, 1, 0)).append('/');
                seen.append(x.all(book, word, true)).append(' ');
            }
        }
        seen.append("row ").append(x.judge(0, 0));
        for (int book = 0; book < 2; book++) {
            seen.append(" tape ").append(x.telling(book)).append(' ').append(x.count(3));
            for (int what = 0; what < 4; what++) {
                seen.append(' ').append(x.tellingOf(book, x.count(book) - 1, what));
            }
        }
        seen.append(" on ").append(x.on()).append(' ');
        lookAtBooks(x, seen, 1);
        return seen.toString();
    }

    private static void lookAtWords(WordsTold x, StringBuilder seen) {
        for (int book = 0; book < 2; book++) {
            seen.append("idle ").append(x.idle(book)).append(" knots ").append(x.knots(book)).append(' ');
            for (int word = 0; word < 12; word++) {
                seen.append(x.needed(book, word)).append('/').append(x.leads(book, word)).append('/');
                seen.append(x.spread(book, 1 << word, word)).append('/').append(x.shows(book, 1 << word, word)).append(' ');
            }
        }
    }

    private static void lookAtBooks(WordsTold x, StringBuilder seen, int whats) {
        for (int what = 0; what <= 4; what++) {
            seen.append(x.count(what)).append(' ');
        }
        for (int book = 0; book < 2; book++) {
            seen.append("book ").append(x.fewest(book)).append(' ').append(x.lightest(book)).append(' ');
            seen.append(x.waits(book)).append(' ').append(x.mend(book)).append(' ');
            int many = x.count(book);
            for (int telling = 0; telling < many; telling++) {
                for (int what = 0; what < whats; what++) {
                    seen.append(x.tellingOf(book, telling, 3 - what)).append(' ');
                }
            }
        }
    }
}

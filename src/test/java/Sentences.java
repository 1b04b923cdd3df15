import java.io.IOException;
import java.nio.charset.StandardCharsets;
import java.nio.file.Files;
import java.nio.file.Path;
import java.util.ArrayList;
import java.util.Arrays;
import java.util.HashSet;
import java.util.LinkedHashMap;
import java.util.List;
import java.util.Map;
import java.util.Set;

/**
 * Tests that name the sentence they hold: the part of the document where it stands ("Promise 2"; or "What it is" or
 * "Term 3" with the promise by whose call it is seen: "Term 3, Promise 15"), its words, the calls.
 * At the end the words are held against the document: they stand there, and none of its words is left without a test.
 */
final class Sentences {
    private static final class Named {
        final String part;
        final String words;

        Named(String part, String words) {
            this.part = part;
            this.words = words;
        }
    }

    private static final List<Named> NAMED = new ArrayList<>();
    private static final Set<String> PROMISES = new HashSet<>();

    private Sentences() { }

    /** Runs the test of a sentence; a test that looks at nothing is a failure. */
    static void holds(String part, String words, Runnable test) {
        NAMED.add(new Named(part.replaceFirst(", .*", ""), words));
        PROMISES.add(part.replaceFirst(".*, ", ""));
        Checks.topic(part + " '" + words + "': ");
        int before = Checks.made();
        test.run();
        Checks.due("the test looks at something", true, Checks.made() > before);
        Checks.topic("");
    }

    static int size() {
        return NAMED.size();
    }

    /** Each promise has a test that names it. */
    static void nameAll(int promises) {
        for (int promise = 1; promise <= promises; promise++) {
            Checks.due("Promise " + promise + " is named by a test", true, PROMISES.contains("Promise " + promise));
        }
    }

    /** Each sentence stands in its part of the document, and all words of each part stand in some sentence. */
    static void holdAgainst(Path document) throws IOException {
        Map<String, String> parts = partsOf(Files.readString(document, StandardCharsets.UTF_8));
        Map<String, boolean[]> told = new LinkedHashMap<>();
        for (Map.Entry<String, String> part : parts.entrySet()) {
            told.put(part.getKey(), new boolean[part.getValue().length()]);
        }
        for (Named named : NAMED) {
            String text = parts.getOrDefault(named.part, "");
            int at = text.indexOf(named.words);
            Checks.due(named.part + " has no words '" + named.words + "'", true, at >= 0);
            for (; at >= 0; at = text.indexOf(named.words, at + 1)) {
                Arrays.fill(told.get(named.part), at, at + named.words.length(), true);
            }
        }
        for (Map.Entry<String, String> part : parts.entrySet()) {
            Checks.due(part.getKey() + " has words without a test: '" + untold(part.getValue(), told.get(part.getKey()))
                    + "'", true, untold(part.getValue(), told.get(part.getKey())).isEmpty());
        }
    }

    private static String untold(String text, boolean[] told) {
        StringBuilder rest = new StringBuilder();
        for (int i = 0; i < text.length(); i++) {
            boolean left = !told[i] && Character.isLetterOrDigit(text.charAt(i));
            if (left && i > 0 && !Character.isLetterOrDigit(text.charAt(i - 1)) && rest.length() > 0) {
                rest.append(' ');
            }
            if (left) {
                rest.append(text.charAt(i));
            }
        }
        return rest.toString();
    }

    /** The text of the first lines, of each term and of each promise (behind its signature), one blank between words. */
    private static Map<String, String> partsOf(String document) {
        Map<String, StringBuilder> parts = new LinkedHashMap<>();
        String part = null;
        boolean terms = false;
        for (String line : document.split("\n")) {
            if (line.startsWith("## ")) {
                terms = line.equals("## Terms");
                boolean first = line.equals("## What it is");
                part = line.startsWith("## Promise ") ? line.substring(3, line.indexOf(':')) : first ? "What it is" : null;
            } else if (terms && line.matches("[1-9]\\. .*")) {
                part = "Term " + line.charAt(0);
                line = line.substring(3);
            } else if (terms && line.startsWith("The constants:")) {
                part = "Constants";
            }
            if (part != null && !line.startsWith("## ") && !line.startsWith("```")) {
                parts.computeIfAbsent(part, key -> new StringBuilder()).append(line).append(' ');
            }
        }
        Map<String, String> texts = new LinkedHashMap<>();
        for (Map.Entry<String, StringBuilder> entry : parts.entrySet()) {
            String text = entry.getValue().toString().replaceAll("\\s+", " ").trim();
            texts.put(entry.getKey(), text.replaceFirst("^(The constants: )?`[^`]*`: ", ""));
        }
        return texts;
    }
}

import java.io.IOException;
import java.nio.file.Files;
import java.nio.file.Path;
import java.util.BitSet;
import java.util.LinkedHashMap;
import java.util.Map;

/** The document's sentences as the tests quote them: each quote must stand there, and no sentence be left out. */
final class Doc {
    private static final Path FILE = Path.of("..", "shared", "DOC.md");
    private static final Map<String, String> TEXTS = new LinkedHashMap<>();
    private static final Map<String, BitSet> QUOTED = new LinkedHashMap<>();
    private static String last = "";
    private static int checkedBefore = 0;

    private Doc() {
    }

    /** Reads the document's sections; the signatures in it are left to FaceTest. */
    static void read() throws IOException {
        if (!Files.exists(FILE)) {
            System.out.println("there is no " + FILE + ": the quotes are not compared with it");
            return;
        }
        String section = "";
        for (String line : Files.readAllLines(FILE)) {
            if (line.startsWith("## ")) {
                section = line.substring(3).replaceFirst("(Promise \\d+):.*", "$1");
            } else if (!line.startsWith("Ahead of the calls")) {
                String said = line.replaceFirst("^`[^`]*`:", "").replace("`", "").trim();
                TEXTS.merge(section, said, (a, b) -> (a + " " + b).trim());
            }
        }
    }

    static void says(int promise, String sentence) {
        says("Promise " + promise, sentence);
    }

    /** The checks that follow would fail if this sentence of the section were broken. */
    static void says(String section, String sentence) {
        dueChecks();
        last = section + ": " + sentence;
        Check.under(last + " - ");
        String text = TEXTS.getOrDefault(section, "").replaceAll(" +", " ");
        BitSet quoted = QUOTED.computeIfAbsent(section, s -> new BitSet());
        int at = text.indexOf(sentence);
        if (at < 0 && !TEXTS.isEmpty()) {
            Check.due("this quote stands in the document", true, () -> false);
        }
        for (; at >= 0; at = text.indexOf(sentence, at + 1)) {
            quoted.set(at, at + sentence.length());
        }
        checkedBefore = Check.count();
    }

    private static void dueChecks() {
        if (!last.isEmpty() && Check.count() == checkedBefore) {
            Check.due("checks of its own", true, () -> false);
        }
    }

    /** Each sentence of the terms and of the promises must have been quoted. */
    static void finish() {
        dueChecks();
        Check.under("");
        for (Map.Entry<String, String> e : TEXTS.entrySet()) {
            if (e.getKey().equals("Terms") || e.getKey().startsWith("Promise ")) {
                BitSet quoted = QUOTED.getOrDefault(e.getKey(), new BitSet());
                Check.due(e.getKey() + " without a test", "", () -> rest(e.getValue().replaceAll(" +", " "), quoted));
            }
        }
    }

    private static String rest(String text, BitSet quoted) {
        StringBuilder sb = new StringBuilder();
        for (int i = 0; i < text.length(); i++) {
            sb.append(quoted.get(i) ? '|' : text.charAt(i));
        }
        String rest = sb.toString().replaceAll("\\|+", "|").trim();
        return rest.matches("[-|; ]*") ? "" : rest;
    }
}

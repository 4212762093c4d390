import java.io.IOException;
import java.lang.reflect.InvocationTargetException;
import java.nio.file.Files;
import java.nio.file.Path;
import java.util.ArrayList;
import java.util.LinkedHashMap;
import java.util.List;
import java.util.Map;
import java.util.regex.Matcher;
import java.util.regex.Pattern;

/** README.md holds: its calls answer what its comments say, and what it tells in the document's words stands there. */
public final class ReadmeTest {
    private static final Path README = Path.of("README.md");
    private static final Path DOCUMENT = Path.of("..", "shared", "DOC.md");
    private static final Pattern EXAMPLE = Pattern.compile("\n```java\n(.*?)\n```", Pattern.DOTALL);
    private static final Pattern TYPING =
        Pattern.compile("for [(]char character : \"(.*)\"[.]toCharArray[(][)][)] [{]");
    private static final Pattern CALL = Pattern.compile("battle\\.(\\w+)\\((.*)\\); +// ([^:]+)(?:: (.*))?");
    private static final Pattern TEXT = Pattern.compile(".*the text \"(.*)\"");
    private static final Pattern SIGNATURE = Pattern.compile("`(.*?)(?: throws .*)?`: (.*)");
    private static final Pattern PROMISE =
        Pattern.compile("## Promise \\d+: (.*?)\n\n(.*?)\n\n(?=## )", Pattern.DOTALL);

    /** What the list of calls tells once, at its head, for all of them. */
    private static final List<String> TOLD_ONCE = List.of("`line`: number of the line", "`side`: the side",
        "`character`: the character", "Throws `IndexOutOfBoundsException` if there is no such line",
        "Throws `IllegalArgumentException` if there is no such side");

    private ReadmeTest() {
    }

    public static void main(String[] args) throws IOException {
        String readme = Files.readString(README);
        examplesHold(readme);
        if (Files.exists(DOCUMENT)) {
            String document = Files.readString(DOCUMENT);
            refusalsAreTheDocuments(readme, document);
            rulesAreTheDocuments(readme, document);
            callsAreTheDocuments(readme, document);
        } else {
            System.out.println("there is no " + DOCUMENT + ": README.md is not compared with it");
        }
        Check.finish("ReadmeTest");
    }

    /** The examples go on one after the other, with one battle. */
    private static void examplesHold(String readme) {
        List<String> lines = exampleLines(readme);
        Check.due("the first example begins", "LineBattle battle = new LineBattle();", () -> lines.get(0));
        LineBattle battle = new LineBattle();
        String typed = "";
        for (String line : lines.subList(Math.min(1, lines.size()), lines.size())) {
            Matcher typing = TYPING.matcher(line);
            Matcher call = CALL.matcher(line);
            if (typing.matches()) {
                typed = typing.group(1);
            } else if (line.equals("    battle.type(character);")) {
                Scene.type(battle, typed);
            } else if (call.matches()) {
                callHolds(battle, call);
            } else {
                Check.due("a line of an example that is no call with its answer", "}", () -> line);
            }
        }
    }

    private static List<String> exampleLines(String readme) {
        List<String> lines = new ArrayList<>();
        Matcher example = EXAMPLE.matcher(readme);
        while (example.find()) {
            lines.addAll(example.group(1).lines().toList());
        }
        return lines;
    }

    private static void callHolds(LineBattle battle, Matcher call) {
        String want = call.group(3).replace("throws ", "throws.");
        Check.due(call.group(), want, () -> answer(battle, call.group(1), call.group(2)));
        Matcher text = TEXT.matcher(call.group(4) == null ? "" : call.group(4));
        if (text.matches()) {
            Check.due(call.group(), text.group(1), () -> Scene.written(battle));
        }
    }

    private static Object answer(LineBattle battle, String name, String arguments) {
        String[] told = arguments.isEmpty() ? new String[0] : arguments.split(", ");
        Class<?>[] types = new Class<?>[told.length];
        Object[] values = new Object[told.length];
        for (int i = 0; i < told.length; i++) {
            boolean isChar = told[i].matches("'.'");
            types[i] = isChar ? char.class : int.class;
            values[i] = isChar ? (Object) told[i].charAt(1) : (Object) Integer.valueOf(told[i]);
        }
        try {
            Object answer = LineBattle.class.getMethod(name, types).invoke(battle, values);
            return answer instanceof Character ? "'" + answer + "'" : answer;
        } catch (InvocationTargetException e) {
            return "throws." + e.getCause().getClass().getSimpleName();
        } catch (ReflectiveOperationException e) {
            return e.toString();
        }
    }

    /** Why a call of an example throws is told as the document tells it. */
    private static void refusalsAreTheDocuments(String readme, String document) {
        Map<String, List<String>> promises = promises(document);
        for (String line : exampleLines(readme)) {
            Matcher call = CALL.matcher(line);
            if (call.matches() && call.group(3).startsWith("throws ")) {
                String want = call.group(3).replaceFirst("throws (.*)", "Throws `$1` if ") + call.group(4);
                List<String> said = promises.getOrDefault(call.group(1), List.of());
                Check.due(line, true, () -> said.stream().anyMatch(s -> s.startsWith(want)));
            }
        }
    }

    private static void rulesAreTheDocuments(String readme, String document) {
        String said = joined(document);
        List<String> rules = items(section(readme, "### The field and its lines"));
        Check.due("there are rules", false, rules::isEmpty);
        for (String rule : rules) {
            Check.due("the document says: " + rule, true, () -> said.contains(rule));
        }
        String made = "an empty field with 3 jars for each side, at turn 0";
        Check.due("a new object", true, () -> joined(readme).contains(made) && said.contains(made));
    }

    /** Each call of the document is in the list, and what the list says of it is what the document says. */
    private static void callsAreTheDocuments(String readme, String document) {
        Map<String, String> entries = new LinkedHashMap<>();
        for (String entry : items(section(readme, "## The calls"))) {
            Matcher signature = SIGNATURE.matcher(entry);
            Check.due("begins with a signature: " + entry, true, signature::matches);
            entries.put(signature.group(1), signature.group(2));
        }
        Map<String, List<String>> promises = promises(document);
        promises.remove("A new object");
        Check.due("promises of a call", 44, promises::size);
        for (List<String> said : promises.values()) {
            Matcher signature = SIGNATURE.matcher(said.get(0));
            Check.due("begins with a signature: " + said.get(0), true, signature::matches);
            String entry = entries.remove(signature.group(1));
            Check.due(signature.group(1), "", () -> difference(entry, signature.group(2), said));
        }
        Check.due("calls that the document does not have", "[]", () -> entries.keySet());
    }

    /** What of a call's entry does not stand in the document, and what of the document is missing in the entry. */
    private static String difference(String entry, String description, List<String> said) {
        if (entry == null) {
            return "there is no entry";
        }
        StringBuilder missing = new StringBuilder();
        String rest = entry;
        for (int i = 0; i < said.size(); i++) {
            String piece = (i == 0 ? description : said.get(i)).replaceFirst("^- ", "").replaceFirst("\\.$", "");
            int at = rest.indexOf(piece);
            if (at >= 0) {
                rest = rest.substring(0, at) + rest.substring(at + piece.length());
            } else if (!TOLD_ONCE.contains(piece) && !isToldTwice(piece, description)) {
                missing.append("missing: ").append(piece).append(' ');
            }
        }
        return rest.matches("[.; ]*") ? missing.toString() : missing + "not in the document: " + rest;
    }

    /** The document tells the answer of such a call in its description already. */
    private static boolean isToldTwice(String piece, String description) {
        return piece.startsWith("Returns ") && description.startsWith("Returns ");
    }

    /** What the document says of each call, by its name: the signature with the description first. */
    private static Map<String, List<String>> promises(String document) {
        Map<String, List<String>> promises = new LinkedHashMap<>();
        Matcher promise = PROMISE.matcher(document);
        while (promise.find()) {
            List<String> pieces = new ArrayList<>();
            for (String piece : promise.group(2).split("\n\n|\n(?=- )")) {
                pieces.add(joined(piece));
            }
            promises.put(promise.group(1), pieces);
        }
        return promises;
    }

    /** What stands under a heading, up to the next heading of the second rank. */
    private static String section(String text, String heading) {
        int from = text.indexOf("\n" + heading + "\n");
        int to = text.indexOf("\n## ", from + 1);
        return from < 0 ? "" : text.substring(from, to < 0 ? text.length() : to);
    }

    /** The items of a list, each on one line. */
    private static List<String> items(String section) {
        List<String> items = new ArrayList<>();
        for (String part : section.split("\n\n|\n(?=- )")) {
            if (part.trim().startsWith("- ")) {
                items.add(joined(part.trim().substring(2)));
            }
        }
        return items;
    }

    private static String joined(String text) {
        return text.replaceAll("\\s+", " ").trim();
    }
}

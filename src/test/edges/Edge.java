import java.io.IOException;
import java.lang.reflect.InvocationTargetException;
import java.lang.reflect.Method;
import java.nio.charset.StandardCharsets;
import java.nio.file.Files;
import java.nio.file.Path;
import java.util.ArrayList;
import java.util.Arrays;
import java.util.HashMap;
import java.util.List;
import java.util.Map;

/**
 * Sentences of the document, each with runs of calls that are not as due if the sentence does not hold.
 *
 * <p>A row is a call and the answer that is due: {@code "house 8 0 1 1 0 -> -1"}. A row without an answer prepares the
 * town, and must not be refused. {@code law |bars|} feeds the text and makes a law of it, {@code tape |bars|} and
 * {@code bytes 1 2 3} only feed. Behind each call that can be refused, status and the numbers of refusals are looked at, and
 * a refused one must leave all else as it would be without that call.
 */
final class Edge {
    private static final int MOST_CALLS = 512;
    /** How the object is used, the terms I to IV, the promises 1 to 42. */
    private static final int SECTIONS = 1 + 4 + 42;
    private static final List<String> CAN_BE_REFUSED = List.of("house", "rank", "stand", "terms", "door", "wall", "row", "law",
        "force", "wish", "log", "flood", "image", "back");
    private static final List<Integer> REFUSALS = List.of(-1, -2, -3, -5, -6);
    private static final Map<String, Method> CALLS = new HashMap<>();
    private static final Map<String, List<String>> SAID = new HashMap<>();
    private static int wrong = 0;
    private static int asked = 0;

    static {
        for (Method method : CornerTown.class.getDeclaredMethods()) {
            CALLS.put(method.getName(), method);
        }
    }

    private final String sentence;
    private final String[] rows;
    private final CornerTown town = new CornerTown();
    private final int[] refused = new int[REFUSALS.size()];
    private int calls = 0;

    private Edge(String sentence, String[] rows) {
        this.sentence = sentence;
        this.rows = rows;
    }

    /** The sentence stands in that section of the document (0: ahead of its face, I to IV, 1 to 42), and the run is as due. */
    static void says(String section, String sentence, String... rows) {
        SAID.computeIfAbsent(section, any -> new ArrayList<>()).add(sentence);
        Edge edge = new Edge(section + ": " + sentence, rows);
        for (int i = 0; i < rows.length; i++) {
            edge.ask(i);
        }
    }

    static int wrongAnswers() {
        return wrong;
    }

    static int answers() {
        return asked;
    }

    static String[] rows(Object... parts) {
        List<String> all = new ArrayList<>();
        for (Object part : parts) {
            if (part instanceof String[] some) {
                all.addAll(Arrays.asList(some));
            } else {
                all.add((String) part);
            }
        }
        return all.toArray(new String[0]);
    }

    static String[] times(int many, String row) {
        String[] all = new String[many];
        Arrays.fill(all, row);
        return all;
    }

    /** Houses of one plot that touch nobody, on even plots, four in a line. */
    static String[] apart(int many) {
        String[] all = new String[many];
        for (int i = 0; i < many; i++) {
            all[i] = "house " + i % 4 * 2 + " " + i / 4 * 2 + " 1 1 0";
        }
        return all;
    }

    /** Houses of one plot in a slanted line, each touching the next at a corner. */
    static String[] line(int many) {
        String[] all = new String[many];
        for (int i = 0; i < many; i++) {
            all[i] = "house " + i + " " + i + " 1 1 0";
        }
        return all;
    }

    private static void tell(String what) {
        wrong++;
        System.out.println(what);
    }

    private void ask(int i) {
        String row = rows[i];
        int arrow = row.lastIndexOf(" -> ");
        String call = arrow < 0 ? row : row.substring(0, arrow);
        int got = make(town, call);
        asked++;
        if (arrow < 0) {
            if (got < 0 && !call.startsWith("force")) {
                tell(sentence + "\n    row " + i + ": " + call + " prepares, and answered " + got);
            }
        } else if (got != Integer.parseInt(row.substring(arrow + 4).trim())) {
            tell(sentence + "\n    row " + i + ": " + row + ", but answered " + got);
        }
        lookAtRefusal(i, call, got);
        if (calls > MOST_CALLS) {
            tell(sentence + "\n    row " + i + ": more calls than an object is promised for");
        }
    }

    private void lookAtRefusal(int i, String call, int answer) {
        String name = nameOf(call);
        if (!CAN_BE_REFUSED.contains(name)) {
            return;
        }
        boolean wasNone = name.equals("force") && answer == -1;
        int place = wasNone ? -1 : REFUSALS.indexOf(answer);
        int status = make(town, "status");
        if (status != (place < 0 ? 0 : answer)) {
            tell(sentence + "\n    row " + i + ": status is " + status + " behind " + call + ", which answered " + answer);
        }
        if (place >= 0) {
            refused[place]++;
            int counted = make(town, "count " + (8 + place));
            if (counted != refused[place]) {
                tell(sentence + "\n    row " + i + ": count " + (8 + place) + " is " + counted + ", not " + refused[place]);
            }
            lookForTraces(i, name);
        }
    }

    /** The same run twice, once without the refused call: no answer may tell them apart. */
    private void lookForTraces(int i, String name) {
        String with = traces(i, true, name);
        String without = traces(i, false, name);
        if (!with.equals(without)) {
            tell(sentence + "\n    row " + i + ": " + rows[i] + " is refused, yet changes something:\n    " + without + "\n    " + with);
        }
    }

    private String traces(int last, boolean with, String name) {
        Edge again = new Edge(sentence, rows);
        for (int i = 0; i < last; i++) {
            again.make(again.town, callOf(rows[i]));
        }
        if (with) {
            again.make(again.town, callOf(rows[last]));
        } else if (name.equals("law")) {
            again.make(again.town, "end 0");
        }
        StringBuilder all = new StringBuilder();
        again.readTown(all, !name.equals("law"));
        for (int k = 0; k < 2; k++) {
            all.append(" image ").append(again.make(again.town, "back " + k));
            for (int what = 0; what < 7; what++) {
                all.append(' ').append(again.make(again.town, "count " + what));
            }
        }
        if (again.calls > MOST_CALLS) {
            tell(sentence + "\n    row " + last + ": more calls than an object is promised for");
        }
        return all.toString();
    }

    private void readTown(StringBuilder all, boolean faultToo) {
        int houses = make(town, "count 0");
        for (int what = 0; what < 16; what++) {
            if (what < 8 || what > 12) {
                all.append(make(town, "count " + what)).append(' ');
            }
        }
        for (int h = 0; h < houses; h++) {
            all.append("; ").append(make(town, "of " + h + " 4")).append(make(town, "of " + h + " 5"));
            all.append(' ').append(make(town, "visits " + h)).append(' ').append(make(town, "wrong " + h));
            all.append(' ').append(make(town, "visit " + h + " " + (h + 1) % houses + " 1"));
        }
        for (int what = 0; what < 6; what++) {
            all.append(" doors ").append(make(town, "doors " + what));
        }
        all.append(" ruin ").append(make(town, "ruin")).append(" flooded ").append(make(town, "flooded 0 0"));
        all.append(faultToo ? " fault " + make(town, "fault") : "");
    }

    private static String callOf(String row) {
        int arrow = row.lastIndexOf(" -> ");
        return arrow < 0 ? row : row.substring(0, arrow);
    }

    private static String nameOf(String call) {
        int blank = call.indexOf(' ');
        return blank < 0 ? call : call.substring(0, blank);
    }

    private int make(CornerTown on, String call) {
        String name = nameOf(call);
        if (call.indexOf('|') >= 0) {
            put(on, call.substring(call.indexOf('|') + 1, call.lastIndexOf('|')));
            return name.equals("law") ? invoke(on, "law", new Object[0]) : 0;
        }
        String[] words = call.trim().split(" +");
        Object[] numbers = new Object[words.length - 1];
        for (int i = 1; i < words.length; i++) {
            numbers[i - 1] = Long.decode(words[i]).intValue();
        }
        if (name.equals("bytes")) {
            StringBuilder text = new StringBuilder();
            for (Object number : numbers) {
                text.append((char) (int) number);
            }
            put(on, text.toString());
            return 0;
        }
        return invoke(on, name, numbers);
    }

    private void put(CornerTown on, String text) {
        for (int i = 0; i < text.length(); i += 20) {
            Object[] fives = {0, 0, 0, 0, 0};
            for (int j = 0; j < 20 && i + j < text.length(); j++) {
                fives[j / 4] = (int) fives[j / 4] | text.charAt(i + j) << (24 - 8 * (j % 4));
            }
            invoke(on, "feed", fives);
        }
        if (invoke(on, "end", new Object[] {text.length()}) != text.length()) {
            tell(sentence + "\n    the tape could not be fed with " + text);
        }
    }

    private int invoke(CornerTown on, String name, Object[] numbers) {
        calls++;
        try {
            return (int) CALLS.get(name).invoke(on, numbers);
        } catch (IllegalAccessException | InvocationTargetException | RuntimeException thrown) {
            throw new IllegalStateException(sentence + ": " + name + Arrays.toString(numbers), thrown);
        }
    }

    /** Each sentence stands in the document, and of the document nothing but signs is left that no sentence says. */
    static void compareWith(Path document) throws IOException {
        String text = new String(Files.readAllBytes(document), StandardCharsets.UTF_8);
        Map<String, String> sections = sectionsOf(text);
        if (sections.size() != SECTIONS) {
            tell("the document has " + sections.size() + " sections that are known, not " + SECTIONS);
        }
        for (Map.Entry<String, List<String>> said : SAID.entrySet()) {
            for (String one : said.getValue()) {
                if (!sections.getOrDefault(said.getKey(), "").contains(one)) {
                    tell("not in section " + said.getKey() + " of the document: " + one);
                }
            }
        }
        for (Map.Entry<String, String> section : sections.entrySet()) {
            String left = leftOf(section.getValue(), SAID.getOrDefault(section.getKey(), List.of()));
            if (!left.isEmpty()) {
                tell("section " + section.getKey() + " of the document says more than is asked: " + left);
            }
        }
    }

    private static Map<String, String> sectionsOf(String text) {
        Map<String, String> sections = new HashMap<>();
        int use = text.indexOf("An object is used");
        sections.put("0", plain(text.substring(use, text.indexOf("## The public face"))));
        int terms = text.indexOf("## Terms");
        int promises = text.indexOf("## Promise 1:");
        int end = text.indexOf("## Not promised");
        String[] parts = text.substring(terms, promises).split("\n(?=IV?\\.|II+\\.)");
        String[] names = {"Terms", "I", "II", "III", "IV"};
        for (int i = 1; i < parts.length && i < names.length; i++) {
            sections.put(names[i], plain(parts[i].substring(parts[i].indexOf('.') + 1)));
        }
        for (String part : text.substring(promises, end).split("## Promise ")) {
            if (!part.isBlank()) {
                sections.put(part.substring(0, part.indexOf(':')), plain(part.substring(part.indexOf("`: ") + 3)));
            }
        }
        return sections;
    }

    private static String plain(String text) {
        return text.replace("```text", " ").replace("```", " ").replaceAll("\\s+", " ").trim();
    }

    private static String leftOf(String text, List<String> said) {
        char[] left = text.toCharArray();
        for (String one : said) {
            for (int at = text.indexOf(one); at >= 0; at = text.indexOf(one, at + 1)) {
                Arrays.fill(left, at, at + one.length(), ' ');
            }
        }
        return new String(left).replaceAll("[\\s.,;:()]+", " ").trim();
    }
}

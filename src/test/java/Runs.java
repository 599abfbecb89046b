import java.io.IOException;
import java.lang.reflect.Method;
import java.nio.file.Files;
import java.nio.file.Path;
import java.util.HashMap;
import java.util.Map;
import java.util.regex.Matcher;
import java.util.regex.Pattern;

/**
 * Runs of calls written as lines (or parted by ;), each run on a new object:
 *   house(0, 1, 0, 0) = 0     a call and the answer that is due (or the call alone)
 *   3 * days(100)             the same call three times
 *   tape "push w"             these bytes come to THE TAPE (%00 .. %ff: a byte by its number)
 *   text "push w" = FAULT 5   the same, and then text(); FAULT n is -100 less n
 *   new                       a new object from here on
 *   # why
 */
final class Runs {
    private static final Pattern LINE = Pattern.compile("(?:(\\d+) \\* )?(\\w+)(?:\\(([^)]*)\\)| \"([^\"]*)\")(?: = (.+))?");
    private static final int MOST_CALLS = 512;
    private static final Map<String, Method> METHODS = new HashMap<>();
    private static int wrong = 0;
    private static String document = null;

    private final String name;
    private LeaningStreet street = new LeaningStreet();
    private int calls = 0;

    private Runs(String name) {
        this.name = name;
    }

    static {
        for (Method m : LeaningStreet.class.getDeclaredMethods()) METHODS.put(m.getName(), m);
    }

    /** A sentence of the document, and a run that would go otherwise if it did not hold. */
    static void says(String place, String sentence, String run) {
        isInTheDocument(sentence);
        new Runs(place + " '" + sentence + "'").go(run);
    }

    /** A sentence that the document does not say as it is quoted would hide one that has no test. */
    static void isInTheDocument(String sentence) {
        try {
            if (document == null) document = oneLine(Files.readString(Path.of("../shared/DOC.md")));
        } catch (IOException e) {
            throw new IllegalStateException("there is no document", e);
        }
        if (!document.contains(oneLine(sentence))) due("'" + sentence + "', looked for in the document,", 0, 1);
    }

    private static String oneLine(String text) {
        return text.replaceAll("\\s+", " ");
    }

    static LeaningStreet made(String run) {
        Runs runs = new Runs("what is made ready");
        runs.go(run);
        return runs.street;
    }

    static int answer(LeaningStreet street, String call) {
        Runs runs = new Runs("a call");
        runs.street = street;
        Matcher m = LINE.matcher(call);
        if (!m.matches()) throw new IllegalStateException("no call: " + call);
        return runs.called(m);
    }

    static void due(String name, int got, int want) {
        if (got != want) {
            wrong++;
            System.out.println(name + " answered " + told(got) + ", due is " + told(want));
        }
    }

    static void end(String good) {
        System.out.println(wrong == 0 ? good : wrong + " answers are not as due");
        if (wrong != 0) System.exit(1);
    }

    static int number(String word) {
        if (word.startsWith("FAULT ")) return -100 - Integer.parseInt(word.substring(6));
        switch (word) {
            case "BAD": return -1000000001;
            case "NO": return -1000000002;
            case "FULL": return -1000000003;
            case "NONE": return -1000000005;
            case "NOTHING": return -1000000011;
            case "KIND": return -1000000012;
            case "INDEX": return -1000000013;
            case "SIZE": return -1000000014;
            case "LOW": return Integer.MIN_VALUE;
            case "HIGH": return Integer.MAX_VALUE;
            default: return word.startsWith("0x") ? Integer.parseUnsignedInt(word.substring(2), 16) : Integer.parseInt(word);
        }
    }

    private static String told(int v) {
        for (String name : new String[] {"BAD", "NO", "FULL", "NONE", "NOTHING", "KIND", "INDEX", "SIZE"}) if (number(name) == v) return name;
        return "" + v;
    }

    private void go(String run) {
        for (String part : run.split("[\n;]")) {
            String line = part.strip();
            if (line.isEmpty() || line.startsWith("#")) continue;
            if (line.equals("new")) {
                street = new LeaningStreet();
                calls = 0;
                continue;
            }
            Matcher m = LINE.matcher(line);
            if (!m.matches()) throw new IllegalStateException(name + ": no call: " + line);
            int times = m.group(1) == null ? 1 : Integer.parseInt(m.group(1));
            for (int i = 0; i < times; i++) {
                int got = called(m);
                if (m.group(5) != null) due(name + ": " + line, got, number(m.group(5)));
            }
            if (calls > MOST_CALLS) throw new IllegalStateException(name + ": more than 512 calls");
        }
    }

    private int called(Matcher m) {
        if (m.group(4) != null) {
            onTape(m.group(4));
            return m.group(2).equals("text") ? one("text") : 0;
        }
        String[] words = m.group(3).isBlank() ? new String[0] : m.group(3).split(",");
        Object[] args = new Object[words.length];
        for (int i = 0; i < words.length; i++) args[i] = number(words[i].strip());
        return one(m.group(2), args);
    }

    private int one(String call, Object... args) {
        calls++;
        try {
            return (Integer) METHODS.get(call).invoke(street, args);
        } catch (Exception e) {
            throw new IllegalStateException(name + ": " + call, e);
        }
    }

    private void onTape(String text) {
        int[] bytes = new int[text.length()];
        int many = 0;
        for (int i = 0; i < text.length(); i++) {
            boolean byNumber = text.charAt(i) == '%';
            bytes[many++] = byNumber ? Integer.parseInt(text.substring(i + 1, i + 3), 16) : text.charAt(i);
            if (byNumber) i += 2;
        }
        int from = one("count", 6);
        for (int i = 0; i < many; i += 12) {
            int[] v = new int[3];
            for (int j = 0; j < 12; j++) v[j / 4] = v[j / 4] << 8 | (i + j < many ? bytes[i + j] : ' ');
            due(name + ": there is room on the tape", one("feed", v[0], v[1], v[2]), from + i + 12);
        }
        due(name + ": the tape", one("trim", from + many), from + many);
    }
}

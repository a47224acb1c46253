import java.io.IOException;
import java.nio.file.Files;
import java.nio.file.Path;
import java.util.Map;
import java.util.regex.Matcher;
import java.util.regex.Pattern;

/** Each row of README.md's example answers what its comment says. */
public final class ReadmeTest extends Checks {
    private static final Pattern CALL = Pattern.compile("c\\.(\\w+)\\(([-\\d, ]*)\\); +// (-?\\d+|[A-Z]+)\\b.*");
    private static final Pattern TYPED = Pattern.compile("for \\(char b : \"(.*)\"\\.toCharArray\\(\\)\\) c\\.type\\(b\\);");
    private static final String MADE = "PhaseCells c = new PhaseCells();";
    private static final Map<String, Integer> WORDS = Map.of("NONE", NONE, "BAD", BAD, "NO", NO, "FULL", FULL);

    private ReadmeTest() {
    }

    public static void main(String[] args) throws IOException {
        PhaseCells c = new PhaseCells();
        int calls = 0;
        for (String row : example().split("\n")) {
            Matcher call = CALL.matcher(row), typed = TYPED.matcher(row);
            if (call.matches()) {
                due(row, Face.call(c, call.group(1), numbers(call.group(2))), answer(call.group(3)));
                calls++;
            } else if (typed.matches()) {
                types(c, typed.group(1));
            } else {
                due("rows that are no call: " + row, row.startsWith(MADE) ? 0 : 1, 0);
            }
        }
        due("the example has calls", calls > 0 ? 1 : 0, 1);
        ends("README.md is as due");
    }

    private static String example() throws IOException {
        String all = Files.readString(Path.of("README.md"));
        int start = all.indexOf("```java\n") + "```java\n".length();
        return all.substring(start, all.indexOf("```", start));
    }

    private static int[] numbers(String listed) {
        if (listed.isBlank()) {
            return new int[0];
        }
        String[] parts = listed.split(", *");
        int[] n = new int[parts.length];
        for (int i = 0; i < n.length; i++) {
            n[i] = Integer.parseInt(parts[i].trim());
        }
        return n;
    }

    private static long answer(String shown) {
        return WORDS.containsKey(shown) ? WORDS.get(shown) : Long.parseLong(shown);
    }
}

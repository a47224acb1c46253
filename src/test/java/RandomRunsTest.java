import java.util.ArrayList;
import java.util.Arrays;
import java.util.List;
import java.util.Random;
import java.util.Set;
import java.util.TreeMap;
import java.util.TreeSet;

/** Runs of calls, the same every time, each answered as Model answers it. */
public final class RandomRunsTest {
    private static final int RUNS = 300, CALLS = 512;
    private static final int[] ODD = {-1, 0, 1, Integer.MIN_VALUE, Integer.MAX_VALUE, 4095, 4096, 10000, 150, -10003};

    private final Random random;
    private final int[] distances = new int[4];
    private PhaseCells cells;
    private Model model;
    private boolean same = true;
    private final List<String> run = new ArrayList<>();
    private static final TreeMap<String, Set<String>> SEEN = new TreeMap<>();

    private RandomRunsTest(long seed) {
        random = new Random(seed);
    }

    public static void main(String[] args) {
        int wrong = 0;
        for (int seed = 1; seed <= RUNS && wrong < 5; seed++) {
            wrong += new RandomRunsTest(seed).runs() ? 0 : 1;
        }
        wrong += lacks("mark", "0", "1", "2", "3", "4", "5");
        wrong += lacks("cell", "NONE", "BAD", "NO", "+");
        wrong += lacks("motion", "BAD", "NO", "0", "+", "-");
        wrong += lacks("does", "+", "fault", "order");
        wrong += lacks("type", "+", "BAD", "FULL");
        wrong += lacks("back", "NO", "0", "+");
        wrong += lacks("moved", "0", "+");
        System.out.println(wrong == 0 ? "random runs are as due" : wrong + " random runs are not as due");
        if (wrong != 0) {
            System.exit(1);
        }
    }

    /** A run that never comes to some kind of answer proves little, so that counts as wrong, too. */
    private static int lacks(String name, String... kinds) {
        int lacking = 0;
        for (String kind : kinds) {
            if (!SEEN.getOrDefault(name, Set.of()).contains(kind)) {
                System.out.println("no run had " + name + " answer " + kind + ": " + SEEN.get(name));
                lacking++;
            }
        }
        return lacking;
    }

    private static String kind(String name, long answer) {
        if (name.equals("does") && answer < 0) {
            return answer <= -1000 ? "order" : "fault";
        }
        if (answer <= -10001 && answer >= -10004) {
            return new String[] {"NONE", "BAD", "NO", "FULL"}[(int) (-10001 - answer)];
        }
        if (name.equals("mark")) {
            return Long.toString(answer);
        }
        return answer == 0 ? "0" : answer > 0 ? "+" : "-";
    }

    private boolean runs() {
        cells = new PhaseCells();
        model = new Model();
        for (int i = 0; i < distances.length; i++) {
            distances[i] = random.nextInt(10000);
        }
        begin();
        while (run.size() < CALLS - 2) {
            switch (random.nextInt(36)) {
                case 0: case 1: case 2: typesOrders(); break;
                case 3: goesBack(); break;
                case 4: laysPair(); break;
                default: calls(Face.NAMES[pickName()]);
            }
            if (!same) {
                return false;
            }
        }
        makes("digest");
        return same;
    }

    private void begin() {
        if (random.nextInt(3) == 0) {
            makes("grid", 1 + random.nextInt(4), 1 + random.nextInt(4));
        }
        if (random.nextInt(2) == 0) {
            for (int k = 0; k < 3; k++) {
                makes("wave", k, random.nextInt(2) == 0 ? 10 + random.nextInt(200) : 10 + random.nextInt(1991));
            }
        }
        makes("sets", 0, random.nextInt(51));
        makes("sets", 3, 100 + random.nextInt(random.nextBoolean() ? 9900 : 1500));
        makes("sets", 4, 1 + random.nextInt(500));
    }

    /** Echoes oftener than the rest, grids and digests seldom. */
    private int pickName() {
        int i = random.nextInt(Face.NAMES.length + 14);
        if (i >= Face.NAMES.length) {
            return i % 2 == 0 ? 4 : i % 3 == 0 ? 13 : 12;
        }
        boolean seldom = Set.of("grid", "digest", "moved", "mean", "marks").contains(Face.NAMES[i]);
        return seldom && random.nextInt(4) != 0 ? 6 : i;
    }

    private void goesBack() {
        int times = 1 + random.nextInt(7);
        for (int i = 0; i < times && run.size() < CALLS - 4; i++) {
            makes("back");
        }
    }

    /** A cell alike in both exposures, but for a few steps. */
    private void laysPair() {
        int x = spot(), y = spot(), d = distance(), more = random.nextInt(3);
        if (run.size() < CALLS - 8) {
            makes("clears", 0, x, y);
            makes("clears", 1, x, y);
            makes("echo", 0, x, y, d, 500);
            makes("echo", 1, x, y, Math.min(9999, d + more), 400);
            makes("motion", x, y);
        }
    }

    private void calls(String name) {
        int[] n = numbers(name);
        if (n.length > 0 && random.nextInt(15) == 0) {
            n[random.nextInt(n.length)] = ODD[random.nextInt(ODD.length)];
        }
        makes(name, n);
    }

    private int[] numbers(String name) {
        int e = random.nextInt(2), x = spot(), y = spot(), k = random.nextInt(3), four = random.nextInt(4);
        switch (name) {
            case "grid": return new int[] {1 + random.nextInt(4), 1 + random.nextInt(4)};
            case "wave": return new int[] {k, 10 + random.nextInt(1991)};
            case "sets": return setting();
            case "sample": return new int[] {e, x, y, k, four, random.nextInt(4096)};
            case "echo": return new int[] {e, x, y, distance(), 1 + random.nextInt(1000)};
            case "shines": return new int[] {e, x, y, 1 + random.nextInt(random.nextInt(4) == 0 ? 4095 : 300)};
            case "clears": case "mark": case "glow": return new int[] {e, x, y};
            case "raw": case "of": return new int[] {e, x, y, k, four};
            case "bits": return new int[] {e, x, y, k, random.nextInt(2)};
            case "wraps": return new int[] {e, x, y, k};
            case "away": return new int[] {e, x, y, k, random.nextInt(10000)};
            case "cell": return new int[] {e, x, y, four};
            case "motion": return new int[] {x, y};
            case "marks": return new int[] {e, random.nextInt(6)};
            case "mean": return new int[] {e};
            case "told": return new int[] {random.nextInt(11)};
            case "type": return new int[] {random.nextInt(128)};
            case "refused": return new int[] {random.nextInt(5)};
            default: return new int[0];
        }
    }

    private int spot() {
        return random.nextInt(random.nextInt(3) == 0 ? 4 : 3);
    }

    /** Mostly near one of few distances, so that motion is small and cells beside one another are alike. */
    private int distance() {
        int d = distances[random.nextInt(distances.length)] + random.nextInt(25);
        return random.nextInt(5) == 0 ? random.nextInt(10000) : Math.min(9999, d);
    }

    private int[] setting() {
        int k = random.nextInt(6);
        int[] least = {0, 0, 1, 100, 1, 0};
        int[] most = {50, 60, 4095, 9999, 500, 60};
        if (k == 2 && random.nextInt(3) != 0) {
            return new int[] {k, 2000 + random.nextInt(2096)};
        }
        return new int[] {k, least[k] + random.nextInt(most[k] - least[k] + 1)};
    }

    private void typesOrders() {
        StringBuilder text = new StringBuilder();
        int orders = random.nextInt(4);
        for (int i = 0; i < orders; i++) {
            appendOrder(text);
        }
        if (text.length() > 0 && random.nextInt(4) == 0) {
            text.setCharAt(random.nextInt(text.length()), "09; gvselcG:/x".charAt(random.nextInt(14)));
        }
        if (text.length() > 0 && random.nextInt(6) == 0) {
            text.setLength(random.nextInt(text.length()));
        }
        if (random.nextInt(12) == 0) {
            text.append(" ".repeat(random.nextInt(150)));
        }
        if (random.nextInt(20) != 0) {
            makes("clear");
        }
        for (int i = 0; i < text.length() && run.size() < CALLS - 4; i++) {
            makes("type", text.charAt(i));
        }
        makes("does");
    }

    private void appendOrder(StringBuilder text) {
        String letters = "gvseeellc";
        char letter = letters.charAt(random.nextInt(letters.length()));
        if (letter == 'g' && random.nextInt(3) != 0) {
            letter = 'e';
        }
        String name = new String[] {"grid", "wave", "sets", "echo", "shines", "clears"}["gvselc".indexOf(letter)];
        text.append(blanks()).append(letter).append(blanks());
        boolean first = true;
        for (int n : numbers(name)) {
            text.append(first ? "" : " ").append(blanks());
            text.append(random.nextInt(20) == 0 ? String.format("%04d", n) : Integer.toString(n));
            first = false;
        }
        text.append(blanks()).append(';');
    }

    private String blanks() {
        return " ".repeat(random.nextInt(12) == 0 ? 1 + random.nextInt(3) : 0);
    }

    private void makes(String name, int... n) {
        String shown = name + Arrays.toString(n);
        run.add(shown);
        long want = model.call(name, n);
        long got = Face.call(cells, name, n);
        SEEN.computeIfAbsent(name, any -> new TreeSet<>()).add(kind(name, got));
        if (got != want && same) {
            same = false;
            System.out.println(shown + " answered " + got + ", due is " + want + "; the run: " + run);
        }
    }
}

import java.util.Arrays;
import java.util.Random;

/** All promises: long runs of calls by chance (always the same ones), held against the Model. */
public final class ModelTest {
    private static final int RUNS = 400;
    private static final int CALLS_A_RUN = 512;
    private static final String[] CALLS = {"row", "set", "copy", "drop", "feed", "town", "fault", "days", "write", "deny",
        "spare", "undo", "reader", "deeds", "lines", "dead", "ends", "first", "toWrite", "toDeny", "print", "temper",
        "told", "odds", "image", "restore", "kind", "as", "ask", "trace", "count", "status"};

    private final Script script = new Script();
    private final Random random;
    private final NoticeWeek real = new NoticeWeek();
    private final Model model = new Model();
    private final String title;
    private int calls = 0;
    private int differing = 0;

    private ModelTest(int seed) {
        random = new Random(seed);
        title = "run " + seed;
    }

    public static void main(String[] args) {
        int differing = 0;
        for (int seed = 0; seed < RUNS; seed++) {
            ModelTest run = new ModelTest(seed);
            run.play();
            differing += run.differing;
        }
        System.out.println("ModelTest: " + RUNS + " runs, " + differing + " answers differ");
        System.exit(differing == 0 ? 0 : 1);
    }

    private void play() {
        while (calls < CALLS_A_RUN && differing == 0) {
            int chance = random.nextInt(100);
            if (chance < 1 || calls == 0 && random.nextInt(4) > 0) {
                readTown();
            } else if (chance < 4) {
                tellTruly();
            } else {
                String name = CALLS[random.nextInt(CALLS.length)];
                both(name, argumentsOf(name));
            }
        }
    }

    private int both(String name, int... arguments) {
        calls++;
        int got = Script.call(real, name, arguments);
        int want = Script.call(model, name, arguments);
        if (got != want && calls <= CALLS_A_RUN) {
            differing++;
            script.due(title + ", call " + calls, name + Arrays.toString(arguments), got, want);
        }
        return want;
    }

    private void readTown() {
        StringBuilder text = new StringBuilder("w").append(random.nextInt(37)).append(';');
        // Mostly six; at times fewer, or one more than there is room for.
        int readers = random.nextInt(3) > 0 ? 6 : random.nextInt(8);
        for (int r = 0; r < readers; r++) {
            int did = random.nextInt(64);
            int notice = random.nextInt(3) == 0 ? did : random.nextInt(64) | (random.nextBoolean() ? did : 0);
            text.append("pvsck".charAt(random.nextInt(5))).append(did).append(',').append(notice).append(',');
            text.append(random.nextInt(3) == 0 ? random.nextInt(61) : random.nextInt(8)).append(';');
        }
        if (random.nextInt(4) == 0) {
            spoil(text);
        }
        if (random.nextInt(8) > 0) {
            // Empties the tape of what came onto it by chance.
            both("town");
        }
        for (int i = 0; i < text.length(); i++) {
            both("feed", text.charAt(i));
        }
        both("town");
        both("fault");
    }

    private void spoil(StringBuilder text) {
        String signs = "wpvsckx,;0123456789 P\u00ff";
        int at = random.nextInt(text.length());
        char sign = signs.charAt(random.nextInt(signs.length()));
        switch (random.nextInt(4)) {
            case 0 -> text.insert(at, sign);
            case 1 -> text.deleteCharAt(at);
            case 2 -> text.setCharAt(at, sign);
            default -> text.setLength(at);
        }
    }

    /** Lays what one will have done in a ROW, so that temper() and told() have something to find. */
    private void tellTruly() {
        int reader = random.nextInt(6);
        int row = random.nextInt(8);
        int days = 1 + random.nextInt(6);
        int from = random.nextInt(3);
        both("row", row, random.nextInt(3), from + days + random.nextInt(3));
        for (int d = 1; d <= days; d++) {
            both("set", row, from + d - 1, Math.max(0, both("deeds", reader, d)));
        }
        both("temper", reader, row, from, days);
        both("told", reader, row, from, days, 0);
        both("told", reader, row, from, days, 1);
        both("temper", random.nextInt(6), row, from, 1 + random.nextInt(days));
    }

    private int[] argumentsOf(String name) {
        return switch (name) {
            case "row" -> new int[] {near(8), near(3), near(41)};
            case "set" -> new int[] {near(8), near(12), random.nextBoolean() ? near(64) : random.nextInt()};
            case "copy" -> new int[] {near(8), near(8), near(8), near(8), near(8)};
            case "drop" -> new int[] {near(8)};
            case "feed" -> new int[] {near(256)};
            case "town", "fault", "undo", "status" -> new int[0];
            case "days" -> new int[] {random.nextInt(9) == 0 ? near(21) : 1 + random.nextInt(2)};
            case "write" -> new int[] {near(6), near(64)};
            case "deny" -> new int[] {near(6), near(6)};
            case "spare" -> new int[] {near(6), random.nextBoolean() ? near(61) : near(6)};
            case "reader" -> new int[] {near(6), near(5)};
            case "deeds", "lines" -> new int[] {near(6), near(61)};
            case "dead" -> new int[] {near(61)};
            case "ends", "kind" -> new int[] {near(6)};
            case "first", "print" -> new int[] {near(2)};
            case "toWrite" -> new int[] {near(6), near(64) & (random.nextBoolean() ? -1 : random.nextInt(64)), near(2)};
            case "toDeny", "ask" -> new int[] {near(6), near(2)};
            case "temper" -> new int[] {near(6), near(8), near(12), near(17)};
            case "told" -> new int[] {near(6), near(8), near(12), near(17), near(2)};
            case "odds" -> new int[] {near(7), near(11), near(2)};
            case "image", "restore" -> new int[] {near(2)};
            case "as" -> new int[] {near(6), near(6)};
            case "trace" -> new int[] {near(7)};
            case "count" -> new int[] {near(8)};
            default -> throw new IllegalStateException(name);
        };
    }

    /** Mostly 0 .. bound - 1, at times just outside, seldom far outside. */
    private int near(int bound) {
        int chance = random.nextInt(60);
        if (chance == 0) {
            return bound;
        }
        if (chance == 1) {
            return -1;
        }
        if (chance == 2 && random.nextBoolean()) {
            return random.nextBoolean() ? Integer.MIN_VALUE : Integer.MAX_VALUE;
        }
        return random.nextInt(bound);
    }
}

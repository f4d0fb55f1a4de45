import java.util.Arrays;
import java.util.LinkedHashMap;
import java.util.Map;
import java.util.Set;

/**
 * Every call with all its numbers at their edges at once, in every combination and in several states, held
 * against the Model: so also which refusal comes first where several fit, and that no call throws.
 */
public final class GridTest {
    private static final int[] READERS = {-1, 0, 3, 5, 6}, ROWS = {-1, 0, 1, 6, 7, 8}, CHOICE = {-1, 0, 1, 2};
    private static final int[] SETS = {-1, 0, 63, 64}, AHEAD = {-1, 0, 60, 61}, PLACES = {-1, 0, 1, 39, 40};
    private static final int[] TOLD_DAYS = {0, 1, 16, 17};
    private static final Map<String, int[][]> CALLS = new LinkedHashMap<>();

    static {
        CALLS.put("row", new int[][] {ROWS, {-1, 0, 2, 3}, {-1, 0, 40, 41}});
        CALLS.put("set", new int[][] {ROWS, PLACES, {-32769, -129, 128, 32768}});
        CALLS.put("copy", new int[][] {{-1, 0, 1, 7, 8}, PLACES, {-1, 0, 6, 7, 8}, PLACES, {-1, 0, 1, 40, 41}});
        CALLS.put("drop", new int[][] {ROWS});
        CALLS.put("feed", new int[][] {{-1, 0, 255, 256}});
        CALLS.put("town", new int[][] {});
        CALLS.put("fault", new int[][] {});
        CALLS.put("days", new int[][] {{0, 1, 19, 20, 21}});
        CALLS.put("write", new int[][] {READERS, SETS});
        CALLS.put("deny", new int[][] {READERS, {-1, 0, 5, 6}});
        CALLS.put("spare", new int[][] {READERS, {0, 1, 60, 61}});
        CALLS.put("undo", new int[][] {});
        CALLS.put("reader", new int[][] {READERS, {-1, 0, 1, 2, 3, 4, 5}});
        CALLS.put("deeds", new int[][] {READERS, AHEAD});
        CALLS.put("lines", new int[][] {READERS, AHEAD});
        CALLS.put("dead", new int[][] {AHEAD});
        CALLS.put("ends", new int[][] {READERS});
        CALLS.put("first", new int[][] {CHOICE});
        CALLS.put("toWrite", new int[][] {READERS, SETS, CHOICE});
        CALLS.put("toDeny", new int[][] {READERS, CHOICE});
        CALLS.put("print", new int[][] {CHOICE});
        CALLS.put("temper", new int[][] {READERS, ROWS, PLACES, TOLD_DAYS});
        CALLS.put("told", new int[][] {READERS, {-1, 0, 6, 7, 8}, PLACES, TOLD_DAYS, CHOICE});
        CALLS.put("odds", new int[][] {{-1, 0, 1, 6, 7}, {-1, 0, 5, 10, 11}, CHOICE});
        CALLS.put("image", new int[][] {CHOICE});
        CALLS.put("restore", new int[][] {CHOICE});
        CALLS.put("kind", new int[][] {READERS});
        CALLS.put("as", new int[][] {READERS, {-1, 0, 1, 2, 3, 4, 5, 6}});
        CALLS.put("ask", new int[][] {READERS, CHOICE});
        CALLS.put("trace", new int[][] {{-1, 0, 1, 5, 6, 15, 16}});
        CALLS.put("count", new int[][] {{-1, 0, 1, 2, 3, 4, 5, 6, 7, 8}});
        CALLS.put("status", new int[][] {});
    }

    private static final String TOWN = "w9;p1,7,5;v0,63,2;s2,61,9;c4,3,3;k0,9,60;p5,5,0;";
    /** What each state is made of; a text in quotes is fed. */
    private static final String[] STATES = {
        "",
        "'w0;' town",
        "row,0,0,40 row,1,1,40 row,6,2,0 row,7,0,40 set,0,0,3 'w9'",
        "'" + TOWN + "' town row,0,0,40 set,0,0,3 set,0,1,7 row,6,2,1 row,7,0,40 ask,1,0 image,1",
        "'" + TOWN + "' town image,0 days,20 days,3 write,4,1 spare,4,9 drop,3 '" + "w".repeat(60) + "' '" + "1".repeat(60) + "'",
        "'w36;k0,0,60;v63,63,60;p63,0,1;' town" + " days,20".repeat(49) + " row,0,2,16 row,7,2,1 as,0,1",
        "'w36;k0,0,60;v63,63,60;p63,0,1;' town image,0" + " days,20".repeat(49) + " days,19"};

    /** Behind these the state is made anew, unless they are refused; else it is used again. */
    private static final Set<String> CHANGING = Set.of("row", "set", "copy", "drop", "feed", "town", "days", "write", "deny",
            "spare", "undo", "image", "restore", "ask");
    /** With those that make a state, and a round more, fewer than an object is used for. */
    private static final int MOST_CALLS = 300;

    private static NoticeWeek real = null;
    private static Model model = null;
    private static int calls = 0;
    private static int compared = 0;
    private static int differing = 0;

    public static void main(String[] args) {
        for (String state : STATES) {
            real = null;
            for (Map.Entry<String, int[][]> call : CALLS.entrySet()) {
                int[][] edges = call.getValue();
                combine(state, call.getKey(), edges, new int[edges.length], 0);
            }
        }
        System.out.println("GridTest: " + compared + " calls compared, " + differing + " differ");
        System.exit(differing == 0 ? 0 : 1);
    }

    private static void combine(String state, String name, int[][] edges, int[] numbers, int from) {
        if (from == edges.length) {
            compare(state, name, numbers);
            return;
        }
        for (int number : edges[from]) {
            numbers[from] = number;
            combine(state, name, edges, numbers, from + 1);
        }
        // Far outside, but not together with all else: that would be too many.
        if (from == edges.length - 1) {
            for (int k = 0; k < edges.length; k++) {
                int[] far = numbers.clone();
                far[edges.length - 1] = edges[from][1];
                for (int number : new int[] {Integer.MIN_VALUE, Integer.MAX_VALUE}) {
                    far[k] = number;
                    compare(state, name, far);
                }
            }
        }
    }

    private static void compare(String state, String name, int[] numbers) {
        if (real == null || calls > MOST_CALLS) {
            real = new NoticeWeek();
            model = new Model();
            make(real, state);
            make(model, state);
            calls = 0;
        }
        int due = Script.call(model, name, numbers);
        same(state, name, numbers, Script.call(real, name, numbers), due);
        same(state, name + " and status", numbers, real.status(), model.status());
        for (int what = 0; what < 8; what++) {
            same(state, name + " and count " + what, numbers, real.count(what), model.count(what));
        }
        calls += 10;
        if (CHANGING.contains(name) && due > NoticeWeek.NONE || name.equals("town")) {
            real = null;
        }
    }

    private static void make(Object x, String state) {
        for (String word : state.split(" ")) {
            if (word.startsWith("'")) {
                word.replace("'", "").chars().forEach(letter -> Script.call(x, "feed", letter));
            } else if (!word.isEmpty()) {
                String[] parts = word.split(",");
                Script.call(x, parts[0], Arrays.stream(parts).skip(1).mapToInt(Integer::parseInt).toArray());
            }
        }
    }

    private static void same(String state, String call, int[] numbers, int got, int want) {
        compared++;
        if (got != want) {
            differing++;
            System.out.println("behind " + state + ": " + call + Arrays.toString(numbers) + " answered " + got + ", due is " + want);
        }
    }
}

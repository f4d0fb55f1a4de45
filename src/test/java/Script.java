import java.lang.reflect.Method;
import java.util.ArrayList;
import java.util.List;
import java.util.Map;

/**
 * Runs calls that are told in a text, each script on a new object: "set 0 1 200 -> -56 | drop 0 -> 4".
 *
 * "read TEXT" feeds a text and calls town(). Behind each refusal and each FINDING, and behind a call that is
 * told with a ~ ahead of it, a script also proves that nothing but status() has changed: by running its
 * beginning anew with and without that call, and looking at all that can be seen from outside.
 */
final class Script {
    private static final Map<String, Integer> NAMES = Map.ofEntries(
            Map.entry("NONE", -1000000), Map.entry("BAD", -1000001), Map.entry("STATE", -1000002),
            Map.entry("FULL", -1000003), Map.entry("NULL", -1000011), Map.entry("PLACE", -1000012),
            Map.entry("KIND", -1000013), Map.entry("SIZE", -1000014), Map.entry("STORE", -1000015),
            Map.entry("MIN", Integer.MIN_VALUE), Map.entry("MAX", Integer.MAX_VALUE));
    private static final List<String> WITH_STATUS = List.of("row", "set", "copy", "drop", "temper", "told", "as");
    private static final String STILL = "~";
    private static final int ROWS = 8, MOST_ACTS = 24;
    /** Dead ones, each of whom tells by temper() whether an ITEM is what it did. */
    private static final String WITNESSES = "w0;p0,0,0;p1,0,0;p3,0,0;p5,0,0;p7,0,0;p63,0,0;";

    private int passed = 0;
    private int failed = 0;

    /** Runs a script; the title says which promise would be broken. */
    void run(String title, String text) {
        List<String> calls = new ArrayList<>();
        NoticeWeek x = new NoticeWeek();
        for (String part : text.split("[|\n]")) {
            if (part.isBlank()) {
                continue;
            }
            String[] sides = part.split("->");
            boolean still = sides[0].strip().startsWith(STILL);
            String call = sides[0].strip().replace(STILL, "");
            int want = number(sides[1].strip());
            due(title, call, answer(x, call), want);
            check(title, calls, call, want, still);
            calls.add(call);
        }
    }

    void due(String title, String call, long got, long want) {
        if (got == want) {
            passed++;
        } else {
            failed++;
            System.out.println(title + ": " + call + " answered " + got + ", due is " + want);
        }
    }

    /** Ends the test's program, with code 1 if an answer was not as due. */
    void close(String name) {
        System.out.println(name + ": " + passed + " answers as due, " + failed + " not");
        System.exit(failed == 0 ? 0 : 1);
    }

    static int read(NoticeWeek x, String text) {
        for (int i = 0; i < text.length(); i++) {
            x.feed(text.charAt(i));
        }
        return x.town();
    }

    private void check(String title, List<String> before, String call, int want, boolean still) {
        boolean refused = want <= NoticeWeek.BAD && want >= NoticeWeek.FULL;
        boolean found = want <= -1000011 && want >= -1000015;
        if (refused || found || WITH_STATUS.contains(call.split(" ")[0])) {
            checkStatus(title, before, call, refused ? replay(before).status() : found ? -1000010 - want : 0);
        }
        if (refused || found || still) {
            List<String> calls = new ArrayList<>(before);
            List<Integer> due = observe(calls);
            calls.add(call);
            List<Integer> got = observe(calls);
            due(title, "what changed by " + call + ": " + due + " to " + got, got.equals(due) ? 0 : 1, 0);
        }
    }

    private void checkStatus(String title, List<String> before, String call, int status) {
        NoticeWeek x = replay(before);
        answer(x, call);
        due(title, "status() behind " + call, x.status(), status);
    }

    private static NoticeWeek replay(List<String> calls) {
        NoticeWeek x = new NoticeWeek();
        for (String call : calls) {
            answer(x, call);
        }
        return x;
    }

    /** All that can be seen behind these calls, each view on an object of its own, for looking changes it. */
    private static List<Integer> observe(List<String> calls) {
        List<Integer> seen = new ArrayList<>();
        NoticeWeek x = replay(calls);
        for (int what = 0; what < 8; what++) {
            seen.add(x.count(what));
        }
        seen.add(x.fault());
        for (int i = 0; i < 16; i++) {
            seen.add(x.trace(i));
        }
        observeTown(x, seen);
        for (int k = 0; k < MOST_ACTS; k++) {
            seen.add(x.undo());
            observeTown(x, seen);
        }
        for (int image = 0; image < 2; image++) {
            NoticeWeek restored = replay(calls);
            seen.add(restored.restore(image));
            observeTown(restored, seen);
        }
        NoticeWeek readAnew = replay(calls);
        seen.add(readAnew.town());
        seen.add(readAnew.fault());
        observeTown(readAnew, seen);
        if (x.count(0) > 0) {
            observeRows(calls, seen);
        }
        return seen;
    }

    private static void observeTown(NoticeWeek x, List<Integer> seen) {
        seen.add(x.count(1));
        seen.add(x.count(3));
        seen.add(x.count(4));
        for (int r = 0; r < x.count(1); r++) {
            for (int what = 0; what < 3; what++) {
                seen.add(x.reader(r, what));
            }
            seen.add(x.kind(r));
        }
    }

    private static void observeRows(List<String> calls, List<Integer> seen) {
        for (int row = 0; row < ROWS; row++) {
            NoticeWeek x = replay(calls);
            int size = x.drop(row);
            seen.add(size);
            if (size < 0) {
                continue;
            }
            x = replay(calls);
            x.town();
            read(x, WITNESSES);
            for (int i = 0; i < size; i++) {
                for (int witness = 0; witness < 6; witness++) {
                    seen.add(x.temper(witness, row, i, 1));
                }
            }
            // What is left of so great a number tells the LANE.
            seen.add(x.set(row, 0, 100000));
        }
    }

    private static int answer(NoticeWeek x, String call) {
        String[] words = call.split(" +");
        if (words[0].equals("read")) {
            return read(x, words.length > 1 ? words[1] : "");
        }
        int[] args = new int[words.length - 1];
        for (int i = 0; i < args.length; i++) {
            args[i] = number(words[i + 1]);
        }
        return call(x, words[0], args);
    }

    /** Calls a method with numbers, by its name, of a NoticeWeek or of the Model. */
    static int call(Object x, String name, int... args) {
        Class<?>[] types = new Class<?>[args.length];
        Object[] values = new Object[args.length];
        for (int i = 0; i < args.length; i++) {
            types[i] = int.class;
            values[i] = args[i];
        }
        try {
            Method method = x.getClass().getDeclaredMethod(name, types);
            return (Integer) method.invoke(x, values);
        } catch (ReflectiveOperationException e) {
            throw new IllegalStateException(name + " of " + args.length + " numbers", e);
        }
    }

    /** A number, a refusal's name, or FAULT@ and its place. */
    private static int number(String word) {
        if (word.startsWith("FAULT@")) {
            return -1000100 - Integer.parseInt(word.substring(6));
        }
        Integer named = NAMES.get(word);
        return named != null ? named : Integer.parseInt(word);
    }
}

import java.lang.reflect.Method;
import java.util.ArrayList;
import java.util.List;
import java.util.Map;

/**
 * Runs calls that are told in a text, each script on a new object: "set 0 1 200 -> -56 | drop 0 -> 4".
 *
 * "read TEXT" feeds a text and calls town(). Behind each refusal and each FINDING a script also proves,
 * by running its beginning anew with and without that call, that nothing but status() has changed.
 */
final class Script {
    private static final Map<String, Integer> NAMES = Map.ofEntries(
            Map.entry("NONE", -1000000), Map.entry("BAD", -1000001), Map.entry("STATE", -1000002),
            Map.entry("FULL", -1000003), Map.entry("NULL", -1000011), Map.entry("PLACE", -1000012),
            Map.entry("KIND", -1000013), Map.entry("SIZE", -1000014), Map.entry("STORE", -1000015),
            Map.entry("MIN", Integer.MIN_VALUE), Map.entry("MAX", Integer.MAX_VALUE));
    private static final List<String> WITH_STATUS = List.of("row", "set", "copy", "drop", "temper", "told", "as");

    private int passed = 0;
    private int failed = 0;

    /** Runs a script; the title says which promise would be broken. */
    void run(String title, String text) {
        List<String> calls = new ArrayList<>();
        NoticeWeek x = new NoticeWeek();
        for (String part : text.split("[|\n]")) {
            if (part.isBlank()) {
                continue;
            }
            String[] sides = part.split("->");
            String call = sides[0].strip();
            int want = number(sides[1].strip());
            due(title, call, answer(x, call), want);
            checkStatus(title, calls, call, want);
            calls.add(call);
        }
    }

    void due(String title, String call, long got, long want) {
        if (got == want) {
            passed++;
        } else {
            failed++;
            System.out.println(title + ": " + call + " answered " + got + ", due is " + want);
        }
    }

    /** Ends the test's program, with code 1 if an answer was not as due. */
    void close(String name) {
        System.out.println(name + ": " + passed + " answers as due, " + failed + " not");
        System.exit(failed == 0 ? 0 : 1);
    }

    static int read(NoticeWeek x, String text) {
        for (int i = 0; i < text.length(); i++) {
            x.feed(text.charAt(i));
        }
        return x.town();
    }

    private void checkStatus(String title, List<String> before, String call, int want) {
        boolean refused = want <= NoticeWeek.BAD && want >= NoticeWeek.FULL;
        boolean found = want <= -1000011 && want >= -1000015;
        if (!refused && !found && !WITH_STATUS.contains(call.split(" ")[0])) {
            return;
        }
        NoticeWeek with = replay(before);
        answer(with, call);
        NoticeWeek without = replay(before);
        int status = refused ? without.status() : found ? -1000010 - want : 0;
        due(title, "status() behind " + call, with.status(), status);
        if (refused || found) {
            List<Integer> due = observe(without);
            List<Integer> got = observe(with);
            due(title, "what changed by " + call + ": " + due + " to " + got, got.equals(due) ? 0 : 1, 0);
        }
    }

    private static NoticeWeek replay(List<String> calls) {
        NoticeWeek x = new NoticeWeek();
        for (String call : calls) {
            answer(x, call);
        }
        return x;
    }

    private static List<Integer> observe(NoticeWeek x) {
        List<Integer> seen = new ArrayList<>();
        for (int what = 0; what < 8; what++) {
            seen.add(x.count(what));
        }
        seen.add(x.fault());
        for (int i = 0; i < 8; i++) {
            seen.add(x.trace(i));
        }
        for (int r = 0; r < 6; r++) {
            for (int what = 0; what < 4; what++) {
                seen.add(x.reader(r, what));
            }
            seen.add(x.kind(r));
        }
        seen.add(x.restore(0));
        seen.add(x.restore(1));
        for (int row = 0; row < 8; row++) {
            seen.add(x.drop(row));
        }
        return seen;
    }

    private static int answer(NoticeWeek x, String call) {
        String[] words = call.split(" +");
        if (words[0].equals("read")) {
            return read(x, words.length > 1 ? words[1] : "");
        }
        int[] args = new int[words.length - 1];
        for (int i = 0; i < args.length; i++) {
            args[i] = number(words[i + 1]);
        }
        return call(x, words[0], args);
    }

    /** Calls a method with numbers, by its name, of a NoticeWeek or of the Model. */
    static int call(Object x, String name, int... args) {
        Class<?>[] types = new Class<?>[args.length];
        Object[] values = new Object[args.length];
        for (int i = 0; i < args.length; i++) {
            types[i] = int.class;
            values[i] = args[i];
        }
        try {
            Method method = x.getClass().getDeclaredMethod(name, types);
            return (Integer) method.invoke(x, values);
        } catch (ReflectiveOperationException e) {
            throw new IllegalStateException(name + " of " + args.length + " numbers", e);
        }
    }

    /** A number, a refusal's name, or FAULT@ and its place. */
    private static int number(String word) {
        if (word.startsWith("FAULT@")) {
            return -1000100 - Integer.parseInt(word.substring(6));
        }
        Integer named = NAMES.get(word);
        return named != null ? named : Integer.parseInt(word);
    }
}

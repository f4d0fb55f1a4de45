/** Promises 28 to 32: kind, as, ask, trace, count. */
public final class AsksTest {
    private static final String TOWN = "read w9;p1,7,5;v0,63,2;s2,61,9;c4,3,3;k0,9,60;p5,5,0; -> 6\n";

    public static void main(String[] args) {
        Script script = new Script();
        kind(script);
        as(script);
        ask(script);
        count(script);
        script.close("AsksTest");
    }

    private static void kind(Script script) {
        script.run("promise 28", TOWN + """
                kind 0 -> 1 | kind 1 -> 2 | kind 2 -> 3 | kind 3 -> 4 | kind 4 -> 5 | kind 5 -> 1
                kind 6 -> BAD | kind -1 -> BAD | kind MIN -> BAD | kind MAX -> BAD
                """);
        script.run("promise 28: no TOWN", "kind 0 -> BAD");
    }

    private static void as(Script script) {
        script.run("promise 29", TOWN + """
                as 0 0 -> 0 | as 0 1 -> 0 | as 0 2 -> KIND | as 0 3 -> KIND | as 0 4 -> KIND | as 0 5 -> KIND
                as 1 0 -> 1 | as 1 1 -> 1 | as 1 2 -> 1 | as 1 3 -> KIND | as 1 4 -> KIND | as 1 5 -> KIND
                as 2 0 -> 2 | as 2 1 -> 2 | as 2 2 -> KIND | as 2 3 -> 2 | as 2 4 -> KIND | as 2 5 -> KIND
                as 3 0 -> 3 | as 3 1 -> KIND | as 3 2 -> KIND | as 3 3 -> KIND | as 3 4 -> 3 | as 3 5 -> KIND
                as 4 0 -> 4 | as 4 1 -> KIND | as 4 2 -> KIND | as 4 3 -> KIND | as 4 4 -> 4 | as 4 5 -> 4
                as 5 1 -> 5 | as 6 0 -> BAD | as -1 0 -> BAD | as 0 6 -> BAD | as 0 -1 -> BAD
                """);
        script.run("promise 29: no TOWN", "as 0 0 -> BAD");
    }

    private static void ask(Script script) {
        askOf(script, 0, 0, 4, 11, 10, 21, 20);
        askOf(script, 0, 1, 1, 21, 20);
        askOf(script, 1, 0, -8, 12, 11, 10, 24, 21, 20);
        askOf(script, 1, 1, 2, 24, 21, 20);
        askOf(script, 2, 0, -992, 11, 10, 22, 21, 20);
        askOf(script, 2, 1, -997, 22, 21, 20);
        askOf(script, 3, 0, -98, 13, 10);
        askOf(script, 3, 1, 101, 23, 20, 13, 10);
        askOf(script, 4, 0, -196, 14, 13, 10);
        askOf(script, 4, 1, 200, 23, 20, 14, 13, 10);
        askOf(script, 5, 0, 9, 11, 10, 21, 20);
        askOf(script, 5, 1, 7, 21, 20);
        script.run("promise 30: refused, and THE TRACE stays", TOWN + """
                ask 3 0 -> -98 | ask 6 0 -> BAD | ask -1 0 -> BAD | ask 0 2 -> BAD | ask 0 -1 -> BAD
                trace 0 -> 13 | trace 1 -> 10 | trace 2 -> NONE
                """);
        script.run("promise 30: as it is now", TOWN + """
                days 1 -> 31 | ask 0 1 -> 2 | ask 0 0 -> 5 | write 0 0 -> 7 | ask 0 0 -> 2 | deny 5 0 -> 4 | ask 5 1 -> 6
                """);
        script.run("promise 30: no TOWN", "ask 0 0 -> BAD | ask 0 1 -> BAD");
        script.run("promise 31", """
                trace 0 -> NONE | trace -1 -> NONE | trace 16 -> NONE | trace MIN -> NONE | trace MAX -> NONE
                """);
        script.run("promise 31: kept until the next ask", TOWN + """
                ask 1 0 -> -8 | days 1 -> 31 | read w0; -> 0 | trace 0 -> 12 | trace 5 -> 20 | trace 6 -> NONE | trace -1 -> NONE
                """);
    }

    private static void askOf(Script script, int reader, int what, int answer, int... numbers) {
        StringBuilder run = new StringBuilder(TOWN).append("ask 1 0 -> -8\n");
        run.append("ask ").append(reader).append(' ').append(what).append(" -> ").append(answer).append('\n');
        for (int i = 0; i < 17; i++) {
            run.append("trace ").append(i).append(" -> ").append(i < numbers.length ? "" + numbers[i] : "NONE").append('\n');
        }
        script.run("promises 30, 31", run.toString());
    }

    private static void count(Script script) {
        script.run("promise 32", TOWN + """
                count 0 -> 0 | row 5 0 0 -> 0 | count 0 -> 1 | row 5 1 3 -> 3 | count 0 -> 1 | row 6 1 3 -> 3 | count 0 -> 2 | drop 5 -> 3 | count 0 -> 1
                count 1 -> 6 | count 2 -> 5 | count 3 -> 0 | count 4 -> 9 | count 5 -> 1 | count 6 -> 0 | count 7 -> 0
                days 2 -> 29 | count 1 -> 6 | count 2 -> 4 | count 3 -> 2 | count 5 -> 2 | count 6 -> 2
                feed 119 -> 1 | feed 49 -> 2 | count 7 -> 2 | undo -> 1 | count 6 -> 1 | count 5 -> 1
                deny 5 0 -> 4 | count 5 -> 0
                count 8 -> BAD | count -1 -> BAD | count MIN -> BAD | count MAX -> BAD
                """);
    }
}

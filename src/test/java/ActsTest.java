/** Promises 9 to 14: days, write, deny, spare, undo, reader. */
public final class ActsTest {
    private static final String TOWN = "read w9;p1,7,5;v0,63,2;s2,61,9;c4,3,3;k0,9,60;p5,5,0; -> 6\n";

    public static void main(String[] args) {
        Script script = new Script();
        days(script);
        daysByTemper(script);
        daysAreFull(script);
        write(script);
        deny(script);
        spare(script);
        undo(script);
        actsAreForgotten(script);
        reader(script);
        script.close("ActsTest");
    }

    private static void days(Script script) {
        script.run("promise 9", TOWN + """
                days 1 -> 31 | count 3 -> 1 | count 6 -> 1 | count 2 -> 5
                reader 0 0 -> 3 | reader 0 2 -> 4 | reader 1 0 -> 3 | reader 1 2 -> 1 | reader 2 0 -> 2 | reader 2 2 -> 8
                reader 3 0 -> 12 | reader 3 2 -> 2 | reader 4 0 -> 2 | reader 4 2 -> 59 | reader 5 0 -> 5 | reader 5 2 -> 0
                days 1 -> 29 | count 2 -> 4
                reader 0 0 -> 7 | reader 1 0 -> 15 | reader 1 2 -> 0 | reader 3 0 -> 28 | reader 4 0 -> 2
                days 1 -> 21
                reader 0 0 -> 7 | reader 1 0 -> 15 | reader 1 2 -> 0 | reader 3 0 -> 60 | reader 3 2 -> 0 | reader 4 0 -> 6
                days 20 -> 16 | count 3 -> 23 | count 6 -> 23 | reader 3 0 -> 60 | reader 4 0 -> 54 | reader 4 2 -> 37
                days 0 -> BAD | days -1 -> BAD | days 21 -> BAD | days MIN -> BAD | days MAX -> BAD
                """);
        script.run("promise 9: STATE is ahead of BAD", "days 1 -> STATE | days 0 -> STATE | days 21 -> STATE");
    }

    private static void daysByTemper(Script script) {
        script.run("promise 9: a proud one", """
                read w0;p2,43,9; -> 1 | days 1 -> 1 | reader 0 0 -> 3 | days 1 -> 1 | reader 0 0 -> 11
                days 1 -> 1 | reader 0 0 -> 43 | days 1 -> 1 | reader 0 0 -> 43
                """);
        script.run("promise 9: a vain one", """
                read w0;v2,55,9; -> 1 | days 1 -> 1 | reader 0 0 -> 7 | days 1 -> 1 | reader 0 0 -> 55 | days 1 -> 1 | reader 0 0 -> 55
                read w0;v8,7,9; -> 1 | days 1 -> 1 | reader 0 0 -> 11 | days 1 -> 1 | reader 0 0 -> 15 | days 1 -> 1 | reader 0 0 -> 15
                """);
        script.run("promise 9: a shy one", """
                read w0;s0,7,9; -> 1 | days 3 -> 1 | reader 0 0 -> 0
                write 0 20 -> 7 | days 1 -> 1 | reader 0 0 -> 4 | days 1 -> 1 | reader 0 0 -> 20 | days 1 -> 1 | reader 0 0 -> 20
                """);
        script.run("promise 9: a cross one", """
                read w0;c4,3,9; -> 1 | days 1 -> 1 | reader 0 0 -> 12 | days 1 -> 1 | reader 0 0 -> 28
                days 1 -> 1 | reader 0 0 -> 60 | days 1 -> 1 | reader 0 0 -> 60
                """);
        script.run("promise 9: a calm one, in even DAYS", """
                read w0;k4,3,9; -> 1 | days 1 -> 1 | reader 0 0 -> 12 | days 1 -> 1 | reader 0 0 -> 12
                days 1 -> 1 | reader 0 0 -> 28 | days 1 -> 1 | reader 0 0 -> 28 | days 1 -> 1 | reader 0 0 -> 60 | reader 0 2 -> 4
                """);
        script.run("promise 9: the last DAY is lived, then nothing more is done", """
                read w0;p0,63,1;c0,0,2; -> 2 | days 1 -> 2 | reader 0 0 -> 1 | reader 0 2 -> 0
                days 1 -> 0 | reader 0 0 -> 1 | reader 1 0 -> 3 | days 1 -> 0 | reader 1 0 -> 3 | reader 1 2 -> 0 | count 3 -> 3
                """);
    }

    private static void daysAreFull(Script script) {
        StringBuilder run = new StringBuilder("read w0;k0,0,60; -> 1\n");
        for (int i = 1; i <= 49; i++) {
            run.append("days 20 -> ").append(i < 3 ? 1 : 0).append('\n');
        }
        run.append("count 3 -> 980 | days 20 -> FULL | days 21 -> BAD | count 3 -> 980\n");
        run.append("days 19 -> 0 | count 3 -> 999 | days 1 -> FULL | days 0 -> BAD | undo -> 23 | days 2 -> FULL | days 1 -> 0\n");
        script.run("promise 9: FULL beyond DAY 999", run.toString());
    }

    private static void write(Script script) {
        script.run("promise 10", TOWN + """
                write 0 63 -> 7 | reader 0 1 -> 63 | count 6 -> 1 | write 0 0 -> 63 | reader 0 1 -> 0 | count 6 -> 2
                reader 0 0 -> 1 | reader 0 2 -> 5 | count 3 -> 0 | reader 1 1 -> 63
                write 0 64 -> BAD | write 0 -1 -> BAD | write 6 0 -> BAD | write -1 0 -> BAD
                write 5 0 -> STATE | write 5 64 -> BAD
                write 0 0 -> 0 | count 6 -> 3
                days 2 -> 29 | write 1 0 -> STATE
                """);
        script.run("promise 10: no TOWN", "write 0 0 -> BAD");
    }

    private static void deny(Script script) {
        script.run("promise 11", TOWN + """
                deny 5 0 -> 4 | reader 5 0 -> 4 | count 6 -> 1 | deny 5 0 -> STATE | deny 5 2 -> 0 | count 6 -> 2
                deny 0 0 -> 0 | deny 0 1 -> STATE | deny 1 5 -> STATE
                deny 0 6 -> BAD | deny 0 -1 -> BAD | deny 6 0 -> BAD | deny -1 0 -> BAD | deny 0 MAX -> BAD | deny 0 32 -> BAD
                reader 0 1 -> 7 | reader 0 2 -> 5
                """);
        script.run("promise 11: the highest DEED", "read w0;k63,0,0; -> 1 | deny 0 5 -> 31 | deny 0 0 -> 30");
        script.run("promise 11: no TOWN", "deny 0 0 -> BAD");
    }

    private static void spare(Script script) {
        script.run("promise 12", TOWN + """
                spare 0 1 -> 6 | reader 0 2 -> 6 | count 6 -> 1 | spare 0 54 -> 60 | spare 0 1 -> 60 | reader 0 2 -> 60 | count 6 -> 3
                spare 1 60 -> 60 | spare 3 57 -> 60 | spare 4 60 -> 60
                spare 2 0 -> BAD | spare 2 -1 -> BAD | spare 2 61 -> BAD | spare 2 MAX -> BAD | spare 6 1 -> BAD | spare -1 1 -> BAD
                spare 5 1 -> STATE | spare 5 61 -> BAD
                reader 0 0 -> 1 | reader 0 1 -> 7 | reader 2 2 -> 9 | dead 60 -> 63
                """);
        script.run("promise 12: no TOWN", "spare 0 1 -> BAD");
    }

    private static void undo(Script script) {
        script.run("promise 13", TOWN + """
                undo -> STATE
                days 2 -> 29 | write 0 32 -> 7 | deny 5 2 -> 1 | spare 2 4 -> 11 | count 6 -> 5
                undo -> 4 | reader 2 2 -> 7 | count 6 -> 4
                undo -> 3 | reader 5 0 -> 5
                undo -> 2 | reader 0 1 -> 7 | reader 0 0 -> 7
                undo -> 1 | count 3 -> 1 | reader 0 0 -> 3 | reader 1 0 -> 3 | reader 1 2 -> 1 | reader 3 2 -> 2 | reader 4 0 -> 2
                write 1 1 -> 63 | undo -> 1
                undo -> 0 | count 3 -> 0 | reader 0 0 -> 1 | reader 0 2 -> 5 | reader 1 0 -> 0 | reader 1 1 -> 63 | reader 4 0 -> 0
                undo -> STATE | count 6 -> 0
                days 1 -> 31 | undo -> 0
                """);
        script.run("promise 13: no TOWN", "undo -> STATE");
    }

    private static void actsAreForgotten(Script script) {
        StringBuilder run = new StringBuilder("read w0;p0,0,60; -> 1\n");
        for (int i = 1; i <= 30; i++) {
            run.append("write 0 ").append(i).append(" -> ").append(i - 1);
            run.append(" | count 6 -> ").append(Math.min(i, 24)).append('\n');
        }
        for (int i = 1; i <= 24; i++) {
            run.append("undo -> ").append(24 - i).append(" | reader 0 1 -> ").append(30 - i).append('\n');
        }
        run.append("undo -> STATE | reader 0 1 -> 6\n");
        run.append("days 20 -> 1 | days 20 -> 1 | count 6 -> 24 | count 3 -> 40 | undo -> 23 | count 3 -> 39\n");
        script.run("promise 13: 24 ACTS are kept", run.toString());
    }

    private static void reader(Script script) {
        script.run("promise 14", TOWN + """
                reader 0 0 -> 1 | reader 0 1 -> 7 | reader 0 2 -> 5 | reader 0 3 -> 2 | reader 0 4 -> 2
                reader 1 3 -> 6 | reader 1 4 -> 3 | reader 2 3 -> 6 | reader 2 4 -> 0 | reader 3 3 -> 3 | reader 3 4 -> 8
                reader 4 3 -> 2 | reader 4 4 -> 2 | reader 5 3 -> 0 | reader 5 4 -> 0
                reader 0 5 -> BAD | reader 0 -1 -> BAD | reader 6 0 -> BAD | reader -1 0 -> BAD | reader MAX 0 -> BAD
                days 1 -> 31 | reader 4 4 -> 0 | reader 0 4 -> 4 | reader 1 4 -> 12 | days 1 -> 29 | reader 4 4 -> 4
                reader 0 4 -> 0 | reader 1 4 -> 0 | reader 1 3 -> 2 | count 3 -> 2
                deny 5 0 -> 4 | reader 5 3 -> 1 | reader 5 4 -> 0
                """);
        script.run("promise 14: what one who has but one or none to do would do", """
                read w0;v0,16,3;v0,0,3;s0,48,3;s8,8,3;c62,1,3;k63,1,3; -> 6
                reader 0 4 -> 16 | reader 1 4 -> 0 | reader 2 4 -> 16 | reader 3 4 -> 0 | reader 4 4 -> 0 | reader 5 4 -> 0
                """);
    }
}

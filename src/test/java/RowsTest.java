/** Promises 1 to 5 and 33: a new object, row, set, copy, drop, status. */
public final class RowsTest {
    /** One dead reader who did 5: told() of it tells whether an ITEM is 5. */
    private static final String WITNESS = "read w0;p5,0,0; -> 1\n";

    public static void main(String[] args) {
        Script script = new Script();
        newObject(script);
        row(script);
        set(script);
        copy(script);
        drop(script);
        status(script);
        script.close("RowsTest");
    }

    private static void newObject(Script script) {
        script.run("promise 1", """
                count 0 -> 0 | count 1 -> 0 | count 2 -> 0 | count 3 -> 0
                count 4 -> 0 | count 5 -> 0 | count 6 -> 0 | count 7 -> 0
                fault -> 0 | status -> 0 | trace 0 -> NONE | undo -> STATE
                kind 0 -> BAD | reader 0 0 -> BAD | days 1 -> STATE | days 0 -> STATE
                dead 0 -> STATE | first 0 -> STATE | print 0 -> STATE | odds 0 0 0 -> STATE
                image 0 -> STATE | restore 0 -> STATE | restore 1 -> STATE
                set 0 0 0 -> NULL | set 7 0 0 -> NULL
                """);
    }

    private static void row(Script script) {
        script.run("promise 2", """
                row 0 0 0 -> 0 | count 0 -> 1 | row 7 2 40 -> 40 | count 0 -> 2 | row 3 1 1 -> 1 | count 0 -> 3
                row -1 0 1 -> BAD | row 8 0 1 -> BAD | row 0 -1 1 -> BAD | row 0 3 1 -> BAD
                row 0 0 41 -> BAD | row 0 0 MAX -> BAD
                row 0 0 -1 -> SIZE | row 0 0 MIN -> SIZE
                row 8 0 -1 -> BAD | row 0 3 -1 -> BAD
                count 0 -> 3
                """);
        script.run("promise 2: in place of what is there", WITNESS + """
                row 0 2 2 -> 2 | set 0 0 5 -> 5 | set 0 1 5 -> 5 | told 0 0 0 2 0 -> 64
                row 0 0 2 -> 2 | told 0 0 0 1 0 -> 0 | told 0 0 1 1 0 -> 0
                set 0 1 128 -> -128 | set 0 2 0 -> PLACE | count 0 -> 1
                """);
        script.run("promise 2: what is found leaves the ROW", WITNESS + """
                row 0 2 2 -> 2 | set 0 0 5 -> 5
                row 0 2 -1 -> SIZE | row 0 1 41 -> BAD
                told 0 0 0 1 0 -> 64 | set 0 1 70000 -> 70000
                """);
    }

    private static void set(Script script) {
        script.run("promise 3", """
                row 0 0 2 -> 2 | row 1 1 2 -> 2 | row 2 2 2 -> 2
                set 0 0 127 -> 127 | set 0 0 128 -> -128 | set 0 1 255 -> -1 | set 0 1 256 -> 0 | set 0 0 -129 -> 127
                set 1 0 32767 -> 32767 | set 1 0 32768 -> -32768 | set 1 1 65535 -> -1 | set 1 1 -32769 -> 32767
                set 2 0 MAX -> MAX | set 2 1 MIN -> MIN
                set 0 2 0 -> PLACE | set 0 -1 0 -> PLACE | set 0 MIN 0 -> PLACE | set 0 MAX 0 -> PLACE
                set 3 0 0 -> NULL | set 3 -1 0 -> NULL | set -1 0 0 -> BAD | set 8 0 0 -> BAD
                row 4 0 0 -> 0 | set 4 0 0 -> PLACE
                """);
        script.run("promise 3: the ITEM alone", WITNESS + """
                row 0 0 3 -> 3 | row 1 0 3 -> 3 | set 0 1 5 -> 5
                told 0 0 1 1 0 -> 64 | told 0 0 0 1 0 -> 0 | told 0 0 2 1 0 -> 0 | told 0 1 1 1 0 -> 0
                set 0 1 261 -> 5 | told 0 0 1 1 0 -> 64
                """);
    }

    private static void copy(Script script) {
        script.run("promise 4", """
                row 0 0 4 -> 4 | row 1 1 4 -> 4 | row 2 0 2 -> 2
                copy 0 0 2 0 2 -> 2 | copy 0 4 2 2 0 -> 0 | copy 0 0 0 0 4 -> 4
                copy -1 0 0 0 1 -> BAD | copy 0 0 8 0 1 -> BAD | copy 8 0 3 0 1 -> BAD
                copy 3 0 0 0 1 -> NULL | copy 0 0 3 0 1 -> NULL | copy 3 -1 1 0 1 -> NULL
                copy 0 0 1 0 0 -> STORE | copy 0 -1 1 0 1 -> STORE
                copy 0 -1 2 0 1 -> PLACE | copy 0 0 2 -1 1 -> PLACE | copy 0 0 2 0 -1 -> PLACE
                copy 0 0 2 0 3 -> PLACE | copy 2 0 0 0 3 -> PLACE | copy 0 3 2 0 2 -> PLACE | copy 0 0 2 1 2 -> PLACE
                copy 0 5 2 0 0 -> PLACE | copy 0 0 2 3 0 -> PLACE
                copy 0 MAX 2 0 1 -> PLACE | copy 0 1 2 0 MAX -> PLACE | copy 0 0 2 MAX MAX -> PLACE
                copy 0 MIN 2 0 1 -> PLACE | copy 0 0 2 0 MIN -> PLACE
                """);
        String row = WITNESS + "row 0 0 5 -> 5 | set 0 0 5 -> 5 | set 0 2 5 -> 5\n";
        script.run("promise 4: upwards within a ROW, as they were ahead", row + """
                copy 0 0 0 1 4 -> 4
                told 0 0 0 2 0 -> 64 | told 0 0 2 1 0 -> 0 | told 0 0 3 1 0 -> 64 | told 0 0 4 1 0 -> 0
                """);
        script.run("promise 4: downwards within a ROW", row + """
                copy 0 1 0 0 4 -> 4
                told 0 0 0 1 0 -> 0 | told 0 0 1 1 0 -> 64 | told 0 0 2 1 0 -> 0 | told 0 0 3 1 0 -> 0 | told 0 0 4 1 0 -> 0
                """);
        script.run("promise 4: to another ROW", row + """
                row 1 0 3 -> 3 | copy 0 2 1 1 1 -> 1
                told 0 1 0 1 0 -> 0 | told 0 1 1 1 0 -> 64 | told 0 1 2 1 0 -> 0 | told 0 0 2 1 0 -> 64
                """);
    }

    private static void drop(Script script) {
        script.run("promise 5", """
                row 0 0 4 -> 4 | row 1 1 0 -> 0 | row 2 2 40 -> 40 | count 0 -> 3
                drop 0 -> 4 | drop 1 -> 0 | count 0 -> 1 | drop 2 -> 40 | count 0 -> 0
                drop 0 -> NULL | drop -1 -> BAD | drop 8 -> BAD | set 0 0 1 -> NULL
                """);
        script.run("promise 5: a new ROW has zeros", WITNESS + """
                row 0 0 2 -> 2 | set 0 0 5 -> 5 | drop 0 -> 2 | row 0 0 2 -> 2 | told 0 0 0 1 0 -> 0
                """);
    }

    private static void status(Script script) {
        script.run("promise 33", """
                drop 0 -> NULL | status -> 1
                row 9 0 0 -> BAD | status -> 1
                days 1 -> STATE | status -> 1
                as 0 0 -> BAD | temper 0 0 0 1 -> BAD | told 0 0 0 1 0 -> BAD | status -> 1
                read w0;p0,0,0; -> 1 | status -> 1
                as 0 2 -> KIND | status -> 3
                reader 0 0 -> 0 | count 0 -> 0 | ask 0 0 -> 0 | status -> 3
                as 0 1 -> 0 | status -> 0
                row 0 0 -1 -> SIZE | status -> 4
                row 0 0 1 -> 1 | status -> 0
                set 0 1 0 -> PLACE | status -> 2 | set 0 0 0 -> 0 | status -> 0
                row 1 1 1 -> 1 | copy 0 0 1 0 1 -> STORE | status -> 5 | copy 0 0 0 0 1 -> 1 | status -> 0
                temper 0 0 1 1 -> PLACE | status -> 2 | temper 0 0 0 1 -> 62 | status -> 0
                told 0 2 0 1 0 -> NULL | status -> 1 | told 0 0 0 1 2 -> BAD | status -> 1
                told 0 0 0 1 1 -> 0 | status -> 0
                drop 2 -> NULL | status -> 1 | drop 1 -> 1 | status -> 0
                """);
    }
}

/** Promises 1 to 5, and 33, sentence by sentence: a new object, row, set, copy, drop, status. */
final class EdgesOfRowCalls {
    /** A dead one who did 5: told() of it tells whether an ITEM is 5. */
    private static final String WITNESS = "read w0;p5,0,0; -> 1\n";

    static void tell(Edges edges) {
        newObject(edges);
        row(edges);
        set(edges);
        copy(edges);
        drop(edges);
        status(edges);
    }

    private static void newObject(Edges edges) {
        edges.in("Promise 1");
        edges.holds("No TOWN.",
                "count 0 -> 0 | count 1 -> 0 | count 2 -> 0 | count 3 -> 0 | count 4 -> 0 | count 5 -> 0 | count 6 -> 0 | count 7 -> 0 | fault -> 0 | status -> 0",
                "days 1 -> STATE | dead 0 -> STATE | first 0 -> STATE | print 0 -> STATE | odds 0 0 0 -> STATE | image 0 -> STATE | image 1 -> STATE | restore 0 -> STATE | restore 1 -> STATE | undo -> STATE",
                "write 0 0 -> BAD | deny 0 0 -> BAD | spare 0 1 -> BAD | reader 0 0 -> BAD | deeds 0 0 -> BAD | lines 0 0 -> BAD | ends 0 -> BAD | toWrite 0 0 0 -> BAD | toDeny 0 0 -> BAD",
                "row 0 0 1 -> 1 | temper 0 0 0 1 -> BAD | told 0 0 0 1 0 -> BAD | kind 0 -> BAD | as 0 0 -> BAD | ask 0 0 -> BAD | trace 0 -> NONE",
                "set 0 0 0 -> NULL | set 7 0 0 -> NULL | town -> FAULT@0");
    }

    private static void row(Edges edges) {
        edges.in("Promise 2");
        edges.holds("A ROW of a LANE with n ITEMS, in place of what is there: n.",
                "row 0 0 0 -> 0 | row 0 1 1 -> 1 | row 0 2 40 -> 40 | row 7 0 40 -> 40 | count 0 -> 2 | drop 0 -> 40 | drop 7 -> 40",
                WITNESS + Edges.rowOf(0, 2, 5, 5) + "told 0 0 0 2 0 -> 64 | row 0 0 1 -> 1 | set 0 1 5 -> PLACE | told 0 0 0 1 0 -> 0 | set 0 0 128 -> -128 | count 0 -> 1",
                // No other ROW changes, and the ITEMS beyond a shorter ROW do not come back.
                WITNESS + Edges.rowOf(0, 0, 5, 5) + Edges.rowOf(1, 0, 5, 5) + "row 0 0 1 -> 1 | told 0 1 0 2 0 -> 64 | row 0 0 2 -> 2 | told 0 0 0 1 0 -> 0 | told 0 0 1 1 0 -> 0");
        edges.holds("BAD: ROW, LANE, n above 40; SIZE.",
                "row -1 0 1 -> BAD | row 8 0 1 -> BAD | row MIN 0 1 -> BAD | row MAX 0 1 -> BAD | row 0 -1 1 -> BAD | row 0 3 1 -> BAD | row 0 MIN 1 -> BAD | row 0 MAX 1 -> BAD | count 0 -> 0",
                "row 0 0 41 -> BAD | row 0 0 MAX -> BAD | row 0 0 -1 -> SIZE | row 0 0 MIN -> SIZE | count 0 -> 0 | row 0 0 40 -> 40 | row 1 0 0 -> 0 | count 0 -> 2",
                "row 8 0 -1 -> BAD | row -1 0 -1 -> BAD | row 0 3 -1 -> BAD | row 0 -1 -1 -> BAD | row 0 0 -1 -> SIZE | status -> 4 | row 8 3 41 -> BAD | status -> 4");
    }

    private static void set(Edges edges) {
        edges.in("Promise 3");
        edges.holds("ITEM i becomes v, its lowest bits, as many as the LANE has: what it is then.",
                "row 0 0 1 -> 1 | set 0 0 127 -> 127 | set 0 0 128 -> -128 | set 0 0 255 -> -1 | set 0 0 256 -> 0 | set 0 0 -128 -> -128 | set 0 0 -129 -> 127 | set 0 0 MAX -> -1 | set 0 0 MIN -> 0",
                "row 0 1 1 -> 1 | set 0 0 32767 -> 32767 | set 0 0 32768 -> -32768 | set 0 0 65535 -> -1 | set 0 0 65536 -> 0 | set 0 0 -32768 -> -32768 | set 0 0 -32769 -> 32767 | set 0 0 MAX -> -1 | set 0 0 MIN -> 0",
                "row 0 2 1 -> 1 | set 0 0 MAX -> MAX | set 0 0 MIN -> MIN | set 0 0 -1 -> -1 | set 0 0 0 -> 0",
                // It is kept so, and no other one changes.
                WITNESS + "row 0 0 3 -> 3 | row 1 0 3 -> 3 | set 0 1 261 -> 5 | told 0 0 1 1 0 -> 64 | told 0 0 0 1 0 -> 0 | told 0 0 2 1 0 -> 0 | told 0 1 1 1 0 -> 0 | set 0 1 6 -> 6 | told 0 0 1 1 0 -> 0",
                WITNESS + "row 0 1 1 -> 1 | set 0 0 65541 -> 5 | told 0 0 0 1 0 -> 64");
        edges.holds("BAD: ROW; NULL; PLACE.",
                "row 0 0 2 -> 2 | row 7 0 1 -> 1 | set -1 0 1 -> BAD | set 8 0 1 -> BAD | set MIN 0 1 -> BAD | set MAX 0 1 -> BAD | set 7 0 1 -> 1",
                "row 0 0 2 -> 2 | row 1 0 0 -> 0 | set 0 -1 1 -> PLACE | set 0 0 1 -> 1 | set 0 1 1 -> 1 | set 0 2 1 -> PLACE | set 0 MIN 1 -> PLACE | set 0 MAX 1 -> PLACE | set 1 0 1 -> PLACE",
                "set 8 -1 1 -> BAD | set 0 -1 1 -> NULL | status -> 1 | row 0 0 1 -> 1 | set 0 -1 1 -> PLACE | status -> 2");
    }

    private static void copy(Edges edges) {
        edges.in("Promise 4");
        String apart = WITNESS + Edges.rowOf(0, 0, 5, 0, 5, 0, 0) + "row 1 0 3 -> 3\n";
        edges.holds("n ITEMS of a from i on come to b from j on, as they were ahead: n.",
                apart + "copy 0 0 0 1 4 -> 4 | told 0 0 0 2 0 -> 64 | told 0 0 2 1 0 -> 0 | told 0 0 3 1 0 -> 64 | told 0 0 4 1 0 -> 0",
                apart + "copy 0 1 0 0 4 -> 4 | told 0 0 0 1 0 -> 0 | told 0 0 1 1 0 -> 64 | told 0 0 2 1 0 -> 0 | told 0 0 3 1 0 -> 0 | told 0 0 4 1 0 -> 0",
                apart + "copy 0 2 1 1 1 -> 1 | told 0 1 0 1 0 -> 0 | told 0 1 1 1 0 -> 64 | told 0 1 2 1 0 -> 0 | told 0 0 2 1 0 -> 64",
                apart + "copy 0 0 1 0 3 -> 3 | told 0 1 0 1 0 -> 64 | told 0 1 1 1 0 -> 0 | told 0 1 2 1 0 -> 64 | told 0 0 0 1 0 -> 64",
                // None: nothing moves, at an end too.
                apart + "~copy 0 0 1 0 0 -> 0 | ~copy 0 5 1 3 0 -> 0 | ~copy 0 0 0 0 5 -> 5",
                "row 0 2 40 -> 40 | row 1 2 40 -> 40 | copy 0 0 1 0 40 -> 40 | row 2 2 0 -> 0 | copy 2 0 2 0 0 -> 0 | copy 2 0 1 40 0 -> 0");
        edges.holds("BAD: ROWS; NULL; STORE; PLACE (i, j, n below 0, or beyond an end).",
                "row 0 0 2 -> 2 | copy -1 0 0 0 1 -> BAD | copy 8 0 0 0 1 -> BAD | copy 0 0 -1 0 1 -> BAD | copy 0 0 8 0 1 -> BAD | copy MIN 0 0 0 1 -> BAD | copy 0 0 MAX 0 1 -> BAD",
                "row 0 0 2 -> 2 | copy 0 0 1 0 1 -> NULL | copy 1 0 0 0 1 -> NULL | copy 1 0 1 0 0 -> NULL | copy 1 0 8 0 0 -> BAD",
                // In their order: ROWS that are missing, of two LANES, places.
                "row 0 0 2 -> 2 | row 1 1 2 -> 2 | copy 0 -1 2 -1 -1 -> NULL | copy 0 -1 1 -1 -1 -> STORE | copy 0 -1 0 -1 -1 -> PLACE | copy 0 0 1 0 0 -> STORE | copy 0 9 1 0 0 -> STORE",
                "row 0 0 4 -> 4 | row 2 0 2 -> 2 | copy 0 -1 2 0 1 -> PLACE | copy 0 0 2 -1 1 -> PLACE | copy 0 0 2 0 -1 -> PLACE | copy 0 0 2 0 2 -> 2",
                "row 0 0 4 -> 4 | row 2 0 2 -> 2 | copy 0 0 2 0 3 -> PLACE | copy 2 0 0 0 3 -> PLACE | copy 0 2 2 0 2 -> 2 | copy 0 3 2 0 2 -> PLACE | copy 2 0 0 2 2 -> 2 | copy 2 0 0 3 2 -> PLACE",
                "row 0 0 4 -> 4 | row 2 0 2 -> 2 | copy 0 4 2 2 0 -> 0 | copy 0 5 2 0 0 -> PLACE | copy 0 0 2 3 0 -> PLACE | copy 0 -1 2 0 0 -> PLACE | copy 0 0 2 -1 0 -> PLACE",
                // Sums that would come around.
                "row 0 0 4 -> 4 | row 2 0 2 -> 2 | copy 0 MAX 2 0 1 -> PLACE | copy 0 0 2 MAX 1 -> PLACE | copy 0 1 2 1 MAX -> PLACE | copy 0 MAX 2 MAX MAX -> PLACE | copy 0 MIN 2 0 1 -> PLACE | copy 0 0 2 0 MIN -> PLACE | copy 0 MIN 2 MIN MIN -> PLACE");
    }

    private static void drop(Edges edges) {
        edges.in("Promise 5");
        edges.holds("A ROW is missing from now on: how many ITEMS it had.",
                "row 0 0 4 -> 4 | row 1 1 0 -> 0 | row 7 2 40 -> 40 | count 0 -> 3 | drop 0 -> 4 | count 0 -> 2 | drop 1 -> 0 | count 0 -> 1 | drop 7 -> 40 | count 0 -> 0",
                "row 0 0 4 -> 4 | row 1 0 4 -> 4 | drop 0 -> 4 | set 0 0 1 -> NULL | copy 0 0 1 0 1 -> NULL | copy 1 0 0 0 1 -> NULL | set 1 0 1 -> 1",
                WITNESS + Edges.rowOf(0, 0, 5) + "drop 0 -> 1 | temper 0 0 0 1 -> NULL | told 0 0 0 1 0 -> NULL | row 0 0 1 -> 1 | told 0 0 0 1 0 -> 0");
        edges.holds("BAD; NULL.",
                "drop -1 -> BAD | drop 0 -> NULL | drop 7 -> NULL | drop 8 -> BAD | drop MIN -> BAD | drop MAX -> BAD | row 7 0 0 -> 0 | drop 7 -> 0 | drop 7 -> NULL");
    }

    private static void status(Edges edges) {
        edges.in("Promise 33");
        edges.holds("Of the latest call with a ROW, or as(), that was not BAD, STATE, FULL: the number of its FINDING; 0: it had none, or there was none.",
                "status -> 0 | drop 0 -> NULL | status -> 1 | status -> 1 | drop 8 -> BAD | status -> 1 | row 0 0 1 -> 1 | status -> 0",
                // Every call with a ROW, with and without a FINDING.
                WITNESS + "row 0 0 -1 -> SIZE | status -> 4 | row 0 0 1 -> 1 | status -> 0 | set 0 1 1 -> PLACE | status -> 2 | set 0 0 1 -> 1 | status -> 0",
                WITNESS + "row 0 0 1 -> 1 | row 1 1 1 -> 1 | copy 0 0 1 0 1 -> STORE | status -> 5 | copy 0 0 0 0 1 -> 1 | status -> 0 | drop 2 -> NULL | status -> 1 | drop 1 -> 1 | status -> 0",
                WITNESS + "row 0 0 1 -> 1 | temper 0 1 0 1 -> NULL | status -> 1 | temper 0 0 0 1 -> 0 | status -> 0 | told 0 0 1 1 0 -> PLACE | status -> 2 | told 0 0 0 1 1 -> NONE | status -> 0",
                WITNESS + "as 0 2 -> KIND | status -> 3 | as 0 1 -> 0 | status -> 0",
                // What is refused leaves it, and so does every other call.
                WITNESS + "as 0 2 -> KIND | as 0 6 -> BAD | as 6 0 -> BAD | row 8 0 0 -> BAD | set 8 0 0 -> BAD | copy 8 0 0 0 0 -> BAD | drop 8 -> BAD | temper 0 0 0 0 -> BAD | told 0 0 0 1 2 -> BAD | status -> 3",
                WITNESS + "as 0 2 -> KIND | feed 256 -> BAD | write 0 1 -> STATE | undo -> STATE | days 0 -> BAD | restore 0 -> STATE | ask 6 0 -> BAD | count 8 -> BAD | status -> 3",
                WITNESS + "as 0 2 -> KIND | feed 119 -> 1 | town -> FAULT@1 | fault -> 1 | read w0;p5,0,9; -> 1 | days 1 -> 1 | write 0 1 -> 0 | deny 0 0 -> 4 | spare 0 1 -> 9 | undo -> 3 | reader 0 0 -> 4 | status -> 3",
                "read w0;p5,0,9; -> 1 | as 0 2 -> KIND | deeds 0 1 -> 5 | lines 0 1 -> 2 | dead 1 -> 0 | ends 0 -> 2 | first 0 -> 0 | toWrite 0 0 0 -> 0 | toDeny 0 0 -> 2 | print 0 -> 0 | odds 0 0 0 -> 1 | status -> 3",
                "read w0;p5,0,9; -> 1 | as 0 2 -> KIND | image 0 -> 1 | restore 0 -> 1 | kind 0 -> 1 | ask 0 0 -> 2 | trace 0 -> 11 | count 0 -> 0 | status -> 3 | as 0 0 -> 0 | status -> 0");
    }
}

/** Promises 28 to 32, sentence by sentence: kind, as, ask, trace, count. */
final class EdgesOfAskCalls {
    private static final String TOWN = Edges.TOWN;

    static void tell(Edges edges) {
        kind(edges);
        as(edges);
        ask(edges);
        trace(edges);
        count(edges);
    }

    private static void kind(Edges edges) {
        edges.in("Promise 28");
        edges.holds("The KIND of a READER, as told (1 to 5).",
                TOWN + "kind 0 -> 1 | kind 1 -> 2 | kind 2 -> 3 | kind 3 -> 4 | kind 4 -> 5 | kind 5 -> 1 | days 20 -> 16 | kind 0 -> 1 | kind 3 -> 4");
        edges.holds("BAD.",
                TOWN + "kind -1 -> BAD | kind 6 -> BAD | kind MIN -> BAD | kind MAX -> BAD",
                "kind 0 -> BAD | read w0; -> 0 | kind 0 -> BAD | read w0;k0,0,0; -> 1 | kind 0 -> 5 | kind 1 -> BAD");
    }

    private static void as(Edges edges) {
        edges.in("Promise 29");
        edges.holds("A READER is taken as one of a KIND (0 .. 5): its number.",
                TOWN + "as 0 0 -> 0 | as 5 0 -> 5 | as 5 1 -> 5 | as 1 1 -> 1 | as 1 2 -> 1 | as 2 3 -> 2 | as 3 4 -> 3 | as 4 4 -> 4 | as 4 5 -> 4 | kind 4 -> 5",
                TOWN + "~as 1 1 -> 1 | ~as 4 4 -> 4 | kind 1 -> 2");
        edges.holds("BAD; KIND: it is no such one.",
                TOWN + "as -1 0 -> BAD | as 6 0 -> BAD | as MIN 0 -> BAD | as MAX 0 -> BAD | as 0 -1 -> BAD | as 0 6 -> BAD | as 0 MIN -> BAD | as 0 MAX -> BAD | as 6 2 -> BAD",
                TOWN + "as 0 2 -> KIND | status -> 3 | as 0 3 -> KIND | as 0 4 -> KIND | as 0 5 -> KIND | as 1 3 -> KIND | as 2 2 -> KIND | as 3 5 -> KIND | as 3 1 -> KIND | as 4 1 -> KIND | as 4 0 -> 4 | status -> 0",
                "as 0 0 -> BAD | read w0; -> 0 | as 0 0 -> BAD");
    }

    private static void ask(Edges edges) {
        edges.in("Promise 30");
        edges.holds("An ASK (0, 1) of a READER.",
                TOWN + "ask 0 0 -> 4 | ask 0 1 -> 1 | ask 1 0 -> -8 | ask 1 1 -> 2 | ask 2 0 -> -992 | ask 2 1 -> -997 | ask 3 0 -> -98 | ask 3 1 -> 101 | ask 4 0 -> -196 | ask 4 1 -> 200 | ask 5 0 -> 9 | ask 5 1 -> 7",
                TOWN + "days 1 -> 31 | ask 0 1 -> 2 | ask 0 0 -> 5 | write 0 0 -> 7 | ask 0 0 -> 2 | deny 5 0 -> 4 | ask 5 1 -> 6 | undo -> 2 | ask 5 1 -> 7");
        edges.holds("BAD.",
                TOWN + "ask -1 0 -> BAD | ask 6 0 -> BAD | ask MIN 0 -> BAD | ask MAX 0 -> BAD | ask 0 -1 -> BAD | ask 0 2 -> BAD | ask 0 MIN -> BAD | ask 0 MAX -> BAD",
                TOWN + "ask 3 0 -> -98 | ask 6 0 -> BAD | ask 0 2 -> BAD | trace 0 -> 13 | trace 1 -> 10 | trace 2 -> NONE",
                "ask 0 0 -> BAD | ask 0 1 -> BAD | read w0; -> 0 | ask 0 0 -> BAD");
        edges.holds("THE TRACE is empty ahead of it.",
                TOWN + "ask 1 0 -> -8 | trace 5 -> 20 | trace 6 -> NONE | ask 3 0 -> -98 | trace 0 -> 13 | trace 1 -> 10 | trace 2 -> NONE | trace 5 -> NONE | ask 3 0 -> -98 | trace 2 -> NONE");
    }

    private static void trace(Edges edges) {
        edges.in("Promise 31");
        edges.holds("Number i of THE TRACE; NONE.",
                "trace 0 -> NONE | trace -1 -> NONE | trace 15 -> NONE | trace 16 -> NONE | trace MIN -> NONE | trace MAX -> NONE",
                TOWN + "ask 1 0 -> -8 | trace -1 -> NONE | trace 0 -> 12 | trace 1 -> 11 | trace 2 -> 10 | trace 3 -> 24 | trace 4 -> 21 | trace 5 -> 20 | trace 6 -> NONE | trace 16 -> NONE | trace MAX -> NONE | trace MIN -> NONE",
                // It is kept until the next ask.
                TOWN + "ask 1 0 -> -8 | days 1 -> 31 | undo -> 0 | image 0 -> 1 | restore 0 -> 1 | read w0; -> 0 | trace 0 -> 12 | trace 5 -> 20 | trace 6 -> NONE");
    }

    private static void count(Edges edges) {
        edges.in("Promise 32");
        edges.holds("How many: 0 ROWS,",
                "count 0 -> 0 | row 0 0 0 -> 0 | count 0 -> 1 | row 0 1 3 -> 3 | count 0 -> 1 | row 1 0 1 -> 1 | row 2 0 1 -> 1 | row 3 0 1 -> 1 | row 4 0 1 -> 1 | row 5 0 1 -> 1 | row 6 0 1 -> 1 | row 7 0 1 -> 1 | count 0 -> 8 | drop 7 -> 1 | count 0 -> 7");
        edges.holds("1 READERS, 2 who live,",
                "count 1 -> 0 | count 2 -> 0 | read w0; -> 0 | count 1 -> 0 | count 2 -> 0 | read w0;p0,0,0; -> 1 | count 1 -> 1 | count 2 -> 0",
                TOWN + "count 1 -> 6 | count 2 -> 5 | days 2 -> 29 | count 1 -> 6 | count 2 -> 4 | days 20 -> 16 | count 2 -> 1 | undo -> 21 | count 2 -> 1",
                "read w0;p0,0,1;p0,0,1;p0,0,1;p0,0,1;p0,0,1;p0,0,1; -> 6 | count 2 -> 6 | days 1 -> 0 | count 2 -> 0 | count 1 -> 6");
        edges.holds("3 the DAY, 4 LINES,",
                "count 3 -> 0 | count 4 -> 0 | read w36; -> 0 | count 3 -> 0 | count 4 -> 36 | days 20 -> 0 | count 3 -> 20 | undo -> 19 | count 3 -> 19 | count 4 -> 36 | read w0; -> 0 | count 3 -> 0 | count 4 -> 0");
        edges.holds("5 NOTICES that are TRUE now,",
                "count 5 -> 0 | read w0;p0,0,0;p1,1,1;p0,1,1;c2,2,1; -> 4 | count 5 -> 3 | days 1 -> 0 | count 5 -> 3 | reader 3 3 -> 1 | undo -> 0 | write 1 0 -> 1 | count 5 -> 2");
        edges.holds("6 ACTS that can be undone,",
                "count 6 -> 0 | read w0;p0,0,60; -> 1 | count 6 -> 0 | days 20 -> 1 | count 6 -> 20 | days 4 -> 1 | count 6 -> 24 | days 1 -> 1 | count 6 -> 24 | undo -> 23 | count 6 -> 23 | image 0 -> 1 | count 6 -> 23 | restore 0 -> 1 | count 6 -> 0");
        edges.holds("7 bytes on the tape.",
                "count 7 -> 0 | feed 1 -> 1 | count 7 -> 1 | town -> FAULT@0 | count 7 -> 0\n" + Edges.feeding("w".repeat(120), 0) + "count 7 -> 120 | feed 1 -> FULL | count 7 -> 120");
        edges.holds("BAD.",
                TOWN + "count -1 -> BAD | count 8 -> BAD | count MIN -> BAD | count MAX -> BAD | count 7 -> 0",
                "count -1 -> BAD | count 8 -> BAD | count 0 -> 0 | count 7 -> 0");
    }
}

/** What the document's section Terms says ahead of its parts: numbers, sets, refusals, FINDINGS. */
final class EdgesOfTerms {
    private static final String TOWN = Edges.TOWN;

    /** A state with ACTS, both IMAGES, ROWS of all LANES, a TRACE, a FAULT and bytes on the tape. */
    private static final String FULL_OF_THINGS = TOWN + """
            read w37; -> FAULT@1 | image 0 -> 1 | days 2 -> 29 | image 1 -> 1 | write 0 1 -> 7 | spare 2 3 -> 10 | deny 5 2 -> 1
            row 0 0 4 -> 4 | row 1 1 4 -> 4 | row 2 2 5 -> 5 | row 3 0 0 -> 0 | set 0 1 5 -> 5 | set 1 2 7 -> 7 | set 2 4 63 -> 63
            ask 1 0 -> -16 | feed 119 -> 1 | feed 57 -> 2 | feed 59 -> 3
            """;

    static void tell(Edges edges) {
        edges.in("Terms");
        numbers(edges);
        fractions(edges);
        refusalsInOrder(edges);
        findings(edges);
        nothingChanges(edges);
    }

    private static void numbers(Edges edges) {
        edges.holds("Numbers go from 0 on.",
                "read w0;p1,0,0;v2,0,0; -> 2 | reader 0 0 -> 1 | reader 1 0 -> 2 | reader -1 0 -> BAD | reader 2 0 -> BAD",
                "row 0 0 1 -> 1 | set 0 0 9 -> 9 | set 0 -1 9 -> PLACE | set 0 1 9 -> PLACE | row -1 0 1 -> BAD",
                "read w0;p2,0,0; -> 1 | ask 0 1 -> 1 | trace 0 -> 21 | trace 1 -> 20 | trace 2 -> NONE",
                "read w0;p2,0,0; -> 1 | deny 0 0 -> STATE | deny 0 1 -> 0");
        edges.holds("Sets are bits.",
                "read w0;p32,33,1;v0,0,0;k0,0,1; -> 3 | reader 0 0 -> 32 | reader 0 4 -> 1 | dead 0 -> 2 | dead 1 -> 7 | days 1 -> 0",
                "read w0;p0,0,1;p0,0,1;p0,0,1;p0,0,1;p0,0,1;p0,0,2; -> 6 | dead 0 -> 0 | dead 1 -> 31 | dead 2 -> 63 | days 1 -> 32",
                "read w2;p0,0,1;p0,0,1;p0,0,1;p0,0,1;p0,0,1;p33,33,2; -> 6 | print 1 -> 32 | print 0 -> 2");
    }

    private static void fractions(Edges edges) {
        edges.holds("All that is divided is cut towards 0, but fractions, told as two numbers in lowest terms (0 is 0 by 1).",
                "read w0;p1,3,1; -> 1 | odds 1 10 0 -> 0 | odds 1 10 1 -> 1 | odds 2 0 0 -> 0 | odds 2 0 1 -> 1",
                "read w0;p1,3,1; -> 1 | odds 1 0 0 -> 1 | odds 1 0 1 -> 1 | odds 0 7 0 -> 1 | odds 0 7 1 -> 1",
                "read w0;p1,3,1; -> 1 | odds 1 3 0 -> 7 | odds 1 3 1 -> 10 | odds 1 4 0 -> 3 | odds 1 4 1 -> 5 | odds 1 5 0 -> 1 | odds 1 5 1 -> 2",
                "read w0;p1,3,1;p1,3,1;p1,3,1; -> 3 | odds 3 5 0 -> 1 | odds 3 5 1 -> 8 | odds 3 8 0 -> 1 | odds 3 8 1 -> 125");
    }

    private static void refusalsInOrder(Edges edges) {
        String full = Edges.feeding("w".repeat(120), 0);
        String late = "read w0;p0,0,0; -> 1\n" + Edges.times(49, "days 20 -> 0") + "days 19 -> 0\n";
        edges.holds("Refusals are answers, the first of these that fits, but as told:",
                // BAD ahead of STATE
                TOWN + """
                        write 5 0 -> STATE | write 5 64 -> BAD | write 5 -1 -> BAD | spare 5 1 -> STATE | spare 5 0 -> BAD | spare 5 61 -> BAD
                        deny 0 1 -> STATE | deny 0 6 -> BAD | toWrite 5 0 0 -> STATE | toWrite 5 64 0 -> BAD | toWrite 5 0 2 -> BAD
                        restore 0 -> STATE | restore 2 -> BAD
                        """,
                "image 0 -> STATE | image 2 -> BAD | restore 1 -> STATE | restore -1 -> BAD",
                // STATE ahead of BAD, as told
                """
                days 0 -> STATE | days 21 -> STATE | dead -1 -> STATE | dead 61 -> STATE | first -1 -> STATE | first 2 -> STATE
                print -1 -> STATE | print 2 -> STATE | odds -1 0 0 -> STATE | odds 7 0 0 -> STATE | odds 0 11 0 -> STATE | odds 0 0 2 -> STATE
                """,
                // BAD ahead of FULL
                full + "feed 1 -> FULL | feed 256 -> BAD | feed -1 -> BAD",
                late + "count 3 -> 999 | days 1 -> FULL | days 0 -> BAD | days 21 -> BAD | days 20 -> FULL",
                // BAD ahead of FINDINGS
                """
                row 8 0 -1 -> BAD | row 0 3 -1 -> BAD | set 8 -1 0 -> BAD | copy 0 -1 8 -1 -1 -> BAD | copy 8 0 0 0 0 -> BAD | drop 8 -> BAD
                temper 0 0 0 1 -> BAD | told 0 0 -1 1 0 -> BAD | as 0 1 -> BAD
                """,
                TOWN + "temper 0 0 -1 0 -> BAD | temper 0 0 -1 17 -> BAD | told 0 0 -1 17 0 -> BAD | told 0 0 -1 1 2 -> BAD | as 0 6 -> BAD");
        edges.holds("BAD (a number is not as told; there is no such thing), STATE (as told), FULL (as told),",
                "kind 0 -> BAD | read w0;p0,0,1; -> 1 | kind 0 -> 1 | kind 1 -> BAD | kind -1 -> BAD | kind MIN -> BAD | kind MAX -> BAD",
                "undo -> STATE | days 1 -> STATE | image 0 -> STATE",
                full + "feed 119 -> FULL");
        edges.holds("then FINDINGS, of several the first in time:",
                "row 0 0 2 -> 2 | row 1 1 2 -> 2 | copy 0 3 1 3 9 -> STORE | copy 0 3 2 3 9 -> NULL | copy 2 3 0 3 9 -> NULL | copy 0 3 0 3 9 -> PLACE",
                TOWN + "temper 0 0 -1 1 -> NULL | told 0 0 -1 1 0 -> NULL | set 0 -1 0 -> NULL | row 0 0 0 -> 0 | temper 0 0 -1 1 -> PLACE | told 0 0 -1 1 0 -> PLACE");
    }

    private static void findings(Edges edges) {
        edges.holds("-1000010 less 1 NULL (a ROW that is missing),",
                "drop 0 -> -1000011 | status -> 1 | row 0 0 0 -> 0 | status -> 0 | drop 0 -> 0 | drop 0 -> -1000011 | status -> 1");
        edges.holds("2 PLACE (no such place of a ROW),",
                "row 0 2 3 -> 3 | set 0 3 1 -> -1000012 | status -> 2 | set 0 2 1 -> 1 | status -> 0 | set 0 -1 1 -> -1000012 | set 0 0 1 -> 1");
        edges.holds("3 KIND (a READER that is not that),",
                TOWN + "as 0 2 -> -1000013 | status -> 3 | as 0 1 -> 0 | status -> 0");
        edges.holds("4 SIZE (fewer than none),",
                "row 0 0 -1 -> -1000014 | status -> 4 | count 0 -> 0 | row 0 0 0 -> 0 | status -> 0 | row 0 0 MIN -> -1000014 | count 0 -> 1");
        edges.holds("5 STORE (ROWS of two LANES).",
                "row 0 0 1 -> 1 | row 1 1 1 -> 1 | row 2 2 1 -> 1 | row 3 0 1 -> 1 | copy 0 0 1 0 1 -> -1000015 | status -> 5 | copy 0 0 3 0 1 -> 1 | status -> 0",
                "row 0 0 1 -> 1 | row 1 1 1 -> 1 | row 2 2 1 -> 1 | copy 0 0 2 0 0 -> STORE | copy 1 0 0 0 0 -> STORE | copy 1 0 2 0 0 -> STORE | copy 2 0 0 0 0 -> STORE | copy 2 0 1 0 0 -> STORE");
    }

    /** Script proves it behind each of these calls. */
    private static void nothingChanges(Edges edges) {
        edges.holds("What is refused, or found, changes nothing but status().",
                FULL_OF_THINGS + """
                        row -1 0 1 -> BAD | row 8 0 1 -> BAD | row 0 -1 1 -> BAD | row 0 3 1 -> BAD | row 0 1 41 -> BAD | row 0 1 -1 -> SIZE
                        set -1 0 1 -> BAD | set 8 0 1 -> BAD | set 4 0 1 -> NULL | set 0 4 1 -> PLACE | set 0 -1 1 -> PLACE | set 3 0 1 -> PLACE
                        copy -1 0 0 0 1 -> BAD | copy 0 0 8 0 1 -> BAD | copy 0 0 4 0 1 -> NULL | copy 4 0 0 0 1 -> NULL | copy 0 0 1 0 1 -> STORE
                        copy 0 0 0 1 4 -> PLACE | copy 0 1 0 0 4 -> PLACE | copy 0 1 0 -1 1 -> PLACE | copy 0 1 0 0 -1 -> PLACE | copy 0 -1 0 0 1 -> PLACE
                        drop -1 -> BAD | drop 8 -> BAD | drop 4 -> NULL
                        """,
                FULL_OF_THINGS + """
                        feed -1 -> BAD | feed 256 -> BAD | days 0 -> BAD | days 21 -> BAD
                        write -1 0 -> BAD | write 6 0 -> BAD | write 0 -1 -> BAD | write 0 64 -> BAD | write 5 0 -> STATE | write 1 0 -> STATE
                        deny -1 0 -> BAD | deny 6 0 -> BAD | deny 0 -1 -> BAD | deny 0 6 -> BAD | deny 0 3 -> STATE | deny 5 2 -> STATE
                        spare -1 1 -> BAD | spare 6 1 -> BAD | spare 0 0 -> BAD | spare 0 61 -> BAD | spare 5 1 -> STATE
                        reader -1 0 -> BAD | reader 6 0 -> BAD | reader 0 -1 -> BAD | reader 0 5 -> BAD
                        """,
                FULL_OF_THINGS + """
                        deeds 6 0 -> BAD | deeds 0 61 -> BAD | lines 6 0 -> BAD | lines 0 -1 -> BAD | dead 61 -> BAD | ends 6 -> BAD | first 2 -> BAD
                        toWrite 6 0 0 -> BAD | toWrite 0 64 0 -> BAD | toWrite 0 0 2 -> BAD | toWrite 5 0 0 -> STATE | toDeny 6 0 -> BAD | toDeny 0 2 -> BAD
                        print 2 -> BAD | odds 7 0 0 -> BAD | odds 0 11 0 -> BAD | odds 0 0 2 -> BAD
                        temper 6 0 0 1 -> BAD | temper 0 8 0 1 -> BAD | temper 0 0 0 0 -> BAD | temper 0 4 0 1 -> NULL | temper 0 0 1 4 -> PLACE
                        told 6 0 0 1 0 -> BAD | told 0 8 0 1 0 -> BAD | told 0 0 0 17 0 -> BAD | told 0 0 0 1 2 -> BAD | told 0 4 0 1 0 -> NULL | told 0 0 1 4 0 -> PLACE
                        """,
                FULL_OF_THINGS + """
                        image -1 -> BAD | image 2 -> BAD | restore -1 -> BAD | restore 2 -> BAD | kind 6 -> BAD | as 6 0 -> BAD | as 0 6 -> BAD
                        as 0 2 -> KIND | as 3 5 -> KIND | ask 6 0 -> BAD | ask 0 2 -> BAD | ask -1 1 -> BAD | count 8 -> BAD | count -1 -> BAD
                        """,
                "read w5;p1,3,9; -> 1 | undo -> STATE | restore 0 -> STATE | image 1 -> 1 | restore 0 -> STATE",
                "days 1 -> STATE | undo -> STATE | dead 0 -> STATE | first 0 -> STATE | print 0 -> STATE | odds 0 0 0 -> STATE | image 0 -> STATE | restore 0 -> STATE",
                "read w0;k0,0,60; -> 1\n" + Edges.times(2, "days 20 -> 1") + Edges.times(47, "days 20 -> 0")
                        + "days 20 -> FULL | deny 0 5 -> 31 | days 20 -> FULL | count 3 -> 980",
                Edges.feeding("w".repeat(120), 0) + "feed 59 -> FULL | feed 256 -> BAD");
    }
}

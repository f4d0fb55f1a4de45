/** Promises 15 to 27, sentence by sentence: what is FORETOLD, and IMAGES. */
final class EdgesOfForetoldCalls {
    private static final String TOWN = Edges.TOWN;
    private static final String TOLD_ROWS = TOWN + "row 0 0 12 -> 12 | set 0 0 3 -> 3 | set 0 1 7 -> 7 | row 1 1 40 -> 40 | row 3 2 0 -> 0\n";

    static void tell(Edges edges) {
        deedsAndLines(edges);
        dead(edges);
        ends(edges);
        first(edges);
        toWrite(edges);
        toDeny(edges);
        print(edges);
        temper(edges);
        told(edges);
        odds(edges);
        images(edges);
    }

    private static void deedsAndLines(Edges edges) {
        edges.in("Promise 15");
        edges.holds("DEEDS of one.",
                TOWN + "deeds 0 0 -> 1 | deeds 0 1 -> 3 | deeds 0 2 -> 7 | deeds 0 60 -> 7 | deeds 1 2 -> 15 | deeds 1 60 -> 15 | deeds 2 60 -> 2 | deeds 3 60 -> 60 | deeds 4 7 -> 54 | deeds 5 0 -> 5 | deeds 5 60 -> 5");
        edges.holds("BAD.",
                TOWN + "deeds -1 0 -> BAD | deeds 6 0 -> BAD | deeds MIN 0 -> BAD | deeds MAX 0 -> BAD | deeds 0 -1 -> BAD | deeds 0 61 -> BAD | deeds 0 MIN -> BAD | deeds 0 MAX -> BAD | deeds 5 60 -> 5 | deeds 5 61 -> BAD",
                "deeds 0 0 -> BAD | read w0; -> 0 | deeds 0 0 -> BAD | read w0;p1,0,1; -> 1 | deeds 0 0 -> 1 | deeds 1 0 -> BAD");
        edges.in("Promise 16");
        edges.holds("FALSE LINES of one.",
                TOWN + "lines 0 0 -> 2 | lines 0 1 -> 1 | lines 0 2 -> 0 | lines 0 60 -> 0 | lines 1 1 -> 4 | lines 1 60 -> 2 | lines 2 60 -> 6 | lines 3 60 -> 6 | lines 4 60 -> 6 | lines 5 0 -> 0 | lines 5 60 -> 0");
        edges.holds("BAD.",
                TOWN + "lines -1 0 -> BAD | lines 6 0 -> BAD | lines MIN 0 -> BAD | lines MAX 0 -> BAD | lines 0 -1 -> BAD | lines 0 61 -> BAD | lines 0 MIN -> BAD | lines 0 MAX -> BAD | lines 5 60 -> 0 | lines 5 61 -> BAD",
                "lines 0 0 -> BAD | read w0; -> 0 | lines 0 0 -> BAD | read w0;p1,0,1; -> 1 | lines 0 0 -> 1 | lines 1 0 -> BAD");
    }

    private static void dead(Edges edges) {
        edges.in("Promise 17");
        edges.holds("DEAD.",
                TOWN + "dead 0 -> 32 | dead 1 -> 32 | dead 2 -> 34 | dead 3 -> 42 | dead 4 -> 42 | dead 5 -> 43 | dead 8 -> 43 | dead 9 -> 47 | dead 59 -> 47 | dead 60 -> 63 | days 2 -> 29 | dead 0 -> 34 | dead 58 -> 63");
        edges.holds("BAD; STATE: no TOWN (ahead of BAD).",
                TOWN + "dead -1 -> BAD | dead 61 -> BAD | dead MIN -> BAD | dead MAX -> BAD | dead 0 -> 32 | dead 60 -> 63",
                "dead 0 -> STATE | dead -1 -> STATE | dead 61 -> STATE | read w0; -> 0 | dead 0 -> 0 | dead 60 -> 0 | dead 61 -> BAD");
    }

    private static void ends(Edges edges) {
        edges.in("Promise 18");
        edges.holds("ENDS.",
                TOWN + "ends 0 -> 0 | ends 1 -> 2 | ends 2 -> 6 | ends 3 -> 6 | ends 4 -> 6 | ends 5 -> 0 | deny 5 0 -> 4 | ends 5 -> 1 | spare 1 1 -> 3 | ends 1 -> 0");
        edges.holds("BAD.",
                TOWN + "ends -1 -> BAD | ends 6 -> BAD | ends MIN -> BAD | ends MAX -> BAD",
                "ends 0 -> BAD | read w0; -> 0 | ends 0 -> BAD | read w0;p1,0,1; -> 1 | ends 0 -> 1 | ends 1 -> BAD");
    }

    private static void first(Edges edges) {
        edges.in("Promise 19");
        edges.holds("FIRST: who (what = 0), behind how many DAYS (1); NONE.",
                TOWN + "first 0 -> 1 | first 1 -> 2 | spare 1 1 -> 3 | first 0 -> 3 | first 1 -> 3 | days 3 -> 21 | first 0 -> 2 | first 1 -> 6",
                "read w0;p0,1,1;p0,1,0; -> 2 | first 0 -> NONE | first 1 -> NONE");
        edges.holds("BAD; STATE: no TOWN (ahead of BAD).",
                TOWN + "first -1 -> BAD | first 2 -> BAD | first MIN -> BAD | first MAX -> BAD | first 0 -> 1 | first 1 -> 2",
                "first 0 -> STATE | first 1 -> STATE | first -1 -> STATE | first 2 -> STATE | read w0; -> 0 | first 0 -> NONE | first 1 -> NONE | first 2 -> BAD");
    }

    private static void toWrite(Edges edges) {
        edges.in("Promise 20");
        edges.holds("WRITE: how many FALSE LINES (what = 0), which NOTICE (1); NONE.",
                TOWN + "toWrite 0 0 0 -> 0 | toWrite 0 0 1 -> 1 | toWrite 0 63 0 -> 0 | toWrite 0 63 1 -> 63 | toWrite 1 63 0 -> NONE | toWrite 1 63 1 -> NONE | toWrite 3 5 0 -> 3 | toWrite 3 5 1 -> 4 | toWrite 4 63 0 -> 6 | toWrite 4 63 1 -> 0");
        edges.holds("BAD; STATE: the reader is dead.",
                TOWN + "toWrite -1 0 0 -> BAD | toWrite 6 0 0 -> BAD | toWrite MAX 0 0 -> BAD | toWrite 0 -1 0 -> BAD | toWrite 0 64 0 -> BAD | toWrite 0 MIN 0 -> BAD | toWrite 0 0 -1 -> BAD | toWrite 0 0 2 -> BAD | toWrite 0 0 MAX -> BAD",
                TOWN + "toWrite 5 0 0 -> STATE | toWrite 5 63 1 -> STATE | toWrite 5 64 0 -> BAD | toWrite 5 -1 0 -> BAD | toWrite 5 0 2 -> BAD | toWrite 5 0 -1 -> BAD | days 1 -> 31 | toWrite 1 0 0 -> 0 | days 1 -> 29 | toWrite 1 0 0 -> STATE",
                "toWrite 0 0 0 -> BAD | read w0; -> 0 | toWrite 0 0 0 -> BAD");
    }

    private static void toDeny(Edges edges) {
        edges.in("Promise 21");
        edges.holds("DENY: how many (what = 0), which (1); NONE.",
                "read w0;p3,1,5;p2,3,0;p7,1,0;c0,1,3;k63,63,9;v56,7,2; -> 6 | toDeny 0 0 -> 1 | toDeny 0 1 -> 2 | toDeny 1 0 -> NONE | toDeny 1 1 -> NONE | toDeny 2 0 -> 2 | toDeny 2 1 -> 6\n"
                        + "toDeny 3 0 -> NONE | toDeny 3 1 -> NONE | toDeny 4 0 -> 0 | toDeny 4 1 -> 0 | toDeny 5 0 -> 3 | toDeny 5 1 -> 56");
        edges.holds("BAD.",
                TOWN + "toDeny -1 0 -> BAD | toDeny 6 0 -> BAD | toDeny MIN 0 -> BAD | toDeny MAX 0 -> BAD | toDeny 0 -1 -> BAD | toDeny 0 2 -> BAD | toDeny 0 MIN -> BAD | toDeny 0 MAX -> BAD | toDeny 5 0 -> 0 | toDeny 5 1 -> 0",
                "toDeny 0 0 -> BAD | read w0; -> 0 | toDeny 0 0 -> BAD");
    }

    private static void print(Edges edges) {
        edges.in("Promise 22");
        edges.holds("PRINT: how many DEEDS (what = 0), which readers (1).",
                TOWN + "print 0 -> 3 | print 1 -> 33 | days 2 -> 29 | print 0 -> 7 | print 1 -> 3",
                "read w0; -> 0 | print 0 -> 0 | print 1 -> 0 | read w0;p1,1,1; -> 1 | print 0 -> 0 | print 1 -> 0 | read w1;p1,1,1; -> 1 | print 0 -> 1 | print 1 -> 1");
        edges.holds("BAD; STATE: no TOWN (ahead of BAD).",
                TOWN + "print -1 -> BAD | print 2 -> BAD | print MIN -> BAD | print MAX -> BAD",
                "print 0 -> STATE | print 1 -> STATE | print -1 -> STATE | print 2 -> STATE");
    }

    private static void temper(Edges edges) {
        edges.in("Promise 23");
        edges.holds("TEMPER, n ITEMS of a ROW from i on.",
                TOLD_ROWS + "temper 0 0 0 1 -> 10 | temper 0 0 0 2 -> 10 | temper 0 0 0 3 -> 0 | temper 0 0 1 1 -> 4 | temper 5 0 0 1 -> 0 | set 0 11 5 -> 5 | temper 5 0 11 1 -> 62",
                TOLD_ROWS + "temper 0 1 0 16 -> 0 | temper 0 1 24 16 -> 0 | temper 0 1 39 1 -> 0");
        edges.holds("BAD: READER, ROW, n; NULL; PLACE.",
                TOLD_ROWS + "temper -1 0 0 1 -> BAD | temper 6 0 0 1 -> BAD | temper MAX 0 0 1 -> BAD | temper 0 -1 0 1 -> BAD | temper 0 8 0 1 -> BAD | temper 0 MIN 0 1 -> BAD\n"
                        + "temper 0 0 0 0 -> BAD | temper 0 1 0 17 -> BAD | temper 0 0 0 -1 -> BAD | temper 0 0 0 MIN -> BAD | temper 0 0 0 MAX -> BAD",
                TOLD_ROWS + "temper 0 2 0 1 -> NULL | temper 0 2 -1 1 -> NULL | temper 0 2 0 16 -> NULL | temper 0 2 0 17 -> BAD | temper 6 2 0 1 -> BAD",
                TOLD_ROWS + "temper 0 0 -1 1 -> PLACE | temper 0 0 11 1 -> 0 | temper 0 0 12 1 -> PLACE | temper 0 0 11 2 -> PLACE | temper 0 0 0 12 -> 0 | temper 0 0 0 13 -> PLACE\n"
                        + "temper 0 1 25 16 -> PLACE | temper 0 1 24 16 -> 0 | temper 0 3 0 1 -> PLACE | temper 0 0 MAX 16 -> PLACE | temper 0 0 MIN 16 -> PLACE | temper 0 0 -1 17 -> BAD",
                "row 0 0 1 -> 1 | temper 0 0 0 1 -> BAD | temper 0 1 0 1 -> BAD | read w0; -> 0 | temper 0 0 0 1 -> BAD");
    }

    private static void told(Edges edges) {
        edges.in("Promise 24");
        edges.holds("TOLD, n ITEMS of a ROW from i on: how many (what = 0), the least (1); NONE.",
                TOLD_ROWS + "told 0 0 0 1 0 -> 32 | told 0 0 0 1 1 -> 2 | told 0 0 0 2 0 -> 16 | told 0 0 0 2 1 -> 6 | told 0 0 0 3 0 -> 0 | told 0 0 0 3 1 -> NONE | told 1 0 0 2 0 -> 1 | told 1 0 0 2 1 -> 7",
                TOLD_ROWS + "set 0 11 5 -> 5 | told 5 0 11 1 0 -> 64 | told 5 0 11 1 1 -> 0 | told 5 0 10 1 0 -> 0 | told 5 0 10 1 1 -> NONE | told 0 1 24 16 0 -> 0");
        edges.holds("BAD: READER, ROW, n, what; NULL; PLACE.",
                TOLD_ROWS + "told -1 0 0 1 0 -> BAD | told 6 0 0 1 0 -> BAD | told MAX 0 0 1 0 -> BAD | told 0 -1 0 1 0 -> BAD | told 0 8 0 1 0 -> BAD | told 0 MIN 0 1 0 -> BAD\n"
                        + "told 0 0 0 0 0 -> BAD | told 0 1 0 17 0 -> BAD | told 0 0 0 -1 0 -> BAD | told 0 0 0 MIN 0 -> BAD | told 0 0 0 MAX 0 -> BAD | told 0 0 0 1 -1 -> BAD | told 0 0 0 1 2 -> BAD | told 0 0 0 1 MAX -> BAD",
                TOLD_ROWS + "told 0 2 0 1 0 -> NULL | told 0 2 -1 1 1 -> NULL | told 0 2 0 16 0 -> NULL | told 0 2 0 17 0 -> BAD | told 0 2 0 1 2 -> BAD | told 6 2 0 1 0 -> BAD",
                TOLD_ROWS + "told 0 0 -1 1 0 -> PLACE | told 0 0 11 1 0 -> 0 | told 0 0 12 1 0 -> PLACE | told 0 0 11 2 1 -> PLACE | told 0 0 0 12 0 -> 0 | told 0 0 0 13 0 -> PLACE\n"
                        + "told 0 1 25 16 0 -> PLACE | told 0 1 24 16 1 -> NONE | told 0 3 0 1 0 -> PLACE | told 0 0 MAX 16 0 -> PLACE | told 0 0 MIN 16 0 -> PLACE | told 0 0 -1 1 2 -> BAD",
                "row 0 0 1 -> 1 | told 0 0 0 1 0 -> BAD | told 0 1 0 1 0 -> BAD | read w0; -> 0 | told 0 0 0 1 0 -> BAD");
    }

    private static void odds(Edges edges) {
        edges.in("Promise 25");
        edges.holds("ODDS (c 0 to 10): above (what = 0), below (1).",
                "read w0;p1,3,1;c1,1,1;p1,3,1; -> 3 | odds 2 0 0 -> 1 | odds 2 0 1 -> 1 | odds 3 5 0 -> 1 | odds 3 5 1 -> 8 | odds 1 10 0 -> 1 | odds 1 10 1 -> 1 | odds 2 10 0 -> 0 | odds 2 10 1 -> 1 | odds 3 3 0 -> 147 | odds 3 3 1 -> 1000");
        edges.holds("BAD; STATE: no TOWN (ahead of BAD).",
                TOWN + "odds -1 0 0 -> BAD | odds 7 0 0 -> BAD | odds 0 -1 0 -> BAD | odds 0 11 0 -> BAD | odds 0 0 -1 -> BAD | odds 0 0 2 -> BAD | odds MIN 0 0 -> BAD | odds 0 MAX 0 -> BAD | odds 0 0 MIN -> BAD",
                TOWN + "odds 0 0 0 -> 1 | odds 6 0 0 -> 0 | odds 6 10 1 -> 1 | odds 0 10 0 -> 1",
                "odds 0 0 0 -> STATE | odds -1 0 0 -> STATE | odds 7 0 0 -> STATE | odds 0 11 0 -> STATE | odds 0 -1 0 -> STATE | odds 0 0 2 -> STATE | odds 0 0 -1 -> STATE");
    }

    private static void images(Edges edges) {
        edges.in("Promise 26");
        edges.holds("An IMAGE (0, 1) is kept of the TOWN: 1.",
                TOWN + "image 0 -> 1 | days 1 -> 31 | image 1 -> 1 | days 1 -> 29 | restore 0 -> 1 | count 3 -> 0 | reader 0 0 -> 1 | restore 1 -> 1 | count 3 -> 1 | reader 0 0 -> 3",
                // The latest one, in place of the one before; ACTS stay.
                TOWN + "image 0 -> 1 | days 2 -> 29 | image 0 -> 1 | count 6 -> 2 | days 1 -> 21 | restore 0 -> 1 | count 3 -> 2 | restore 1 -> STATE",
                "read w0; -> 0 | image 0 -> 1 | read w5;p0,0,1; -> 1 | restore 0 -> 1 | count 1 -> 0 | count 4 -> 0 | kind 0 -> BAD | days 1 -> 0",
                TOWN + "days 2 -> 29 | image 1 -> 1 | undo -> 1 | undo -> 0 | restore 1 -> 1 | count 3 -> 2 | reader 1 0 -> 15");
        edges.holds("BAD; STATE: no TOWN.",
                TOWN + "image -1 -> BAD | image 2 -> BAD | image MIN -> BAD | image MAX -> BAD | image 0 -> 1 | image 1 -> 1",
                "image 0 -> STATE | image 1 -> STATE | image -1 -> BAD | image 2 -> BAD | read w37; -> FAULT@1 | image 0 -> STATE | read w0; -> 0 | image 0 -> 1");
        edges.in("Promise 27");
        edges.holds("The TOWN is as an IMAGE kept it (no ACT can be undone then): 1.",
                TOWN + "days 1 -> 31 | image 0 -> 1 | write 0 0 -> 7 | spare 1 9 -> 10 | deny 3 3 -> 4 | days 3 -> 23 | count 6 -> 7 | restore 0 -> 1 | count 3 -> 1 | count 6 -> 0 | undo -> STATE\n"
                        + "reader 0 0 -> 3 | reader 0 1 -> 7 | reader 0 2 -> 4 | reader 1 2 -> 1 | reader 3 0 -> 12 | reader 3 2 -> 2 | reader 4 0 -> 2",
                // Again and again: what is done behind it does not change it.
                TOWN + "image 0 -> 1 | restore 0 -> 1 | days 2 -> 29 | restore 0 -> 1 | write 0 0 -> 7 | undo -> 0 | restore 0 -> 1 | reader 0 0 -> 1 | count 3 -> 0 | count 2 -> 5",
                // Behind another TOWN: its LINES, KINDS and READERS, too.
                TOWN + "image 0 -> 1 | read w5;c4,3,3; -> 1 | image 1 -> 1 | restore 0 -> 1 | count 1 -> 6 | count 4 -> 9 | kind 0 -> 1 | kind 4 -> 5 | restore 1 -> 1 | count 1 -> 1 | count 4 -> 5 | kind 0 -> 4 | kind 1 -> BAD",
                // ROWS, tape, TRACE and fault() are no part of it.
                TOWN + "image 0 -> 1 | row 1 0 4 -> 4 | feed 119 -> 1 | ask 3 0 -> -98 | restore 0 -> 1 | count 0 -> 1 | drop 1 -> 4 | count 7 -> 1 | trace 0 -> 13 | town -> FAULT@1 | restore 0 -> 1 | fault -> 1");
        edges.holds("BAD; STATE: none was kept.",
                TOWN + "restore -1 -> BAD | restore 2 -> BAD | restore MIN -> BAD | restore MAX -> BAD | restore 0 -> STATE | restore 1 -> STATE | image 1 -> 1 | restore 0 -> STATE | restore 1 -> 1 | restore 2 -> BAD",
                "restore 0 -> STATE | restore 1 -> STATE | restore -1 -> BAD | restore 2 -> BAD | image 0 -> STATE | restore 0 -> STATE");
    }
}

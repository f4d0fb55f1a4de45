/** Promises 6 to 14, sentence by sentence: feed, town, fault, days, write, deny, spare, undo, reader. */
final class EdgesOfTownCalls {
    private static final String TOWN = Edges.TOWN;

    static void tell(Edges edges) {
        feed(edges);
        town(edges);
        fault(edges);
        days(edges);
        write(edges);
        deny(edges);
        spare(edges);
        undo(edges);
        reader(edges);
    }

    private static void feed(Edges edges) {
        edges.in("Promise 6");
        edges.holds("A byte (0 to 255) comes behind the tape: how many it has.",
                "feed 0 -> 1 | feed 255 -> 2 | count 7 -> 2 | town -> FAULT@0 | feed 119 -> 1 | count 7 -> 1",
                "feed 119 -> 1 | feed 48 -> 2 | feed 59 -> 3 | feed 255 -> 4 | town -> FAULT@3 | feed 119 -> 1 | feed 48 -> 2 | feed 0 -> 3 | town -> FAULT@2",
                Edges.feeding("w7;p1,2,3;", 0) + "town -> 1 | count 4 -> 7 | reader 0 1 -> 2");
        edges.holds("BAD; FULL.",
                "feed -1 -> BAD | feed 256 -> BAD | feed MIN -> BAD | feed MAX -> BAD | count 7 -> 0 | feed 0 -> 1",
                Edges.feeding("w".repeat(120), 0) + "feed 0 -> FULL | feed 255 -> FULL | feed -1 -> BAD | feed 256 -> BAD | count 7 -> 120 | town -> FAULT@1 | feed 0 -> 1");
    }

    private static void town(Edges edges) {
        edges.in("Promise 7");
        edges.holds("The tape, empty then, is read: how many READERS there are.",
                "read w0; -> 0 | count 7 -> 0 | read w0;p0,0,0; -> 1 | count 7 -> 0 | read w0;" + "k0,0,0;".repeat(6) + " -> 6 | count 7 -> 0 | town -> FAULT@0",
                "feed 119 -> 1 | town -> FAULT@1 | count 7 -> 0 | town -> FAULT@0",
                "read w36;p63,63,60;v63,63,60;s63,63,60;c63,63,60;k63,63,60;p63,63,60; -> 6 | reader 5 2 -> 60 | kind 5 -> 1");
        String before = TOWN + "image 0 -> 1 | days 1 -> 31 | write 0 63 -> 7 | row 0 0 2 -> 2 | ask 3 0 -> -98\n";
        edges.holds("-1000100 less the place of a FAULT: all stays.",
                "town -> -1000100 | fault -> 1 | read w -> -1000101 | read w37; -> -1000101 | read w1 -> -1000102 | read w1;" + "p0,0,0;".repeat(6) + "p -> -1000145",
                // A FAULT at the very end of a text that would be another TOWN.
                before + "read w5;c0,0,1;x -> FAULT@10 | count 1 -> 6 | count 2 -> 5 | count 3 -> 1 | count 4 -> 9 | count 6 -> 2 | count 0 -> 1 | trace 0 -> 13\n"
                        + "reader 0 0 -> 3 | reader 0 1 -> 63 | reader 0 2 -> 4 | kind 0 -> 1 | kind 5 -> 1 | undo -> 1 | reader 0 1 -> 7 | undo -> 0 | count 3 -> 0 | restore 0 -> 1",
                before + "read w5;" + "k0,0,1;".repeat(6) + "k -> FAULT@45 | count 1 -> 6 | kind 0 -> 1 | count 4 -> 9 | count 6 -> 2",
                "read w5;p0,0,1 -> FAULT@9 | count 1 -> 0 | count 4 -> 0 | days 1 -> STATE | image 0 -> STATE",
                // status() stays, too.
                "drop 0 -> NULL | read w37; -> FAULT@1 | status -> 1");
    }

    private static void fault(Edges edges) {
        edges.in("Promise 8");
        edges.holds("The number of the latest FAULT; 0 before one.",
                "fault -> 0 | read w0; -> 0 | fault -> 0 | days 21 -> BAD | feed 256 -> BAD | fault -> 0",
                "read x -> FAULT@0 | fault -> 1 | read w37; -> FAULT@1 | fault -> 2 | read w0;" + "p0,0,0;".repeat(7) + " -> FAULT@45 | fault -> 3 | read w -> FAULT@1 | fault -> 1",
                // It is the latest one, behind a text without one, too.
                "read w37; -> FAULT@1 | fault -> 2 | read w0; -> 0 | fault -> 2 | days 1 -> 0 | image 0 -> 1 | restore 0 -> 1 | fault -> 2");
    }

    private static void days(Edges edges) {
        edges.in("Promise 9");
        edges.holds("n DAYS (1 to 20), an ACT each: who lives (bits).",
                TOWN + "days 1 -> 31 | count 6 -> 1 | count 3 -> 1 | days 1 -> 29 | days 1 -> 21 | days 2 -> 20 | count 6 -> 5 | days 4 -> 16 | count 6 -> 9",
                TOWN + "days 20 -> 16 | count 6 -> 20 | count 3 -> 20 | days 20 -> 16 | count 6 -> 24 | count 3 -> 40 | days 19 -> 16 | days 1 -> 0 | count 3 -> 60",
                "read w0; -> 0 | days 1 -> 0 | count 3 -> 1 | count 6 -> 1");
        String late = "read w0;p0,0,60; -> 1\n" + Edges.times(2, "days 20 -> 1") + Edges.times(47, "days 20 -> 0");
        edges.holds("BAD; STATE: no TOWN (ahead of BAD); FULL: beyond DAY 999.",
                TOWN + "days 0 -> BAD | days -1 -> BAD | days 21 -> BAD | days MIN -> BAD | days MAX -> BAD | count 3 -> 0 | count 6 -> 0",
                "days 0 -> STATE | days 1 -> STATE | days 20 -> STATE | days 21 -> STATE | days MIN -> STATE | read w37; -> FAULT@1 | days 1 -> STATE",
                late + "count 3 -> 980 | days 20 -> FULL | days 21 -> BAD | days 19 -> 0 | count 3 -> 999 | days 1 -> FULL | days 0 -> BAD",
                late + "days 18 -> 0 | count 3 -> 998 | days 2 -> FULL | days 1 -> 0 | days 1 -> FULL | undo -> 23 | count 3 -> 998 | days 2 -> FULL | days 1 -> 0",
                // DAY 0 comes again with a TOWN that is read, or as an IMAGE kept it.
                "read w0; -> 0 | image 0 -> 1\n" + Edges.times(49, "days 20 -> 0") + "days 20 -> FULL | restore 0 -> 1 | days 20 -> 0 | count 3 -> 20",
                "read w0; -> 0\n" + Edges.times(49, "days 20 -> 0") + "days 20 -> FULL | read w0; -> 0 | days 20 -> 0 | count 3 -> 20");
    }

    private static void write(Edges edges) {
        edges.in("Promise 10");
        edges.holds("A NOTICE is another one: what it told.",
                TOWN + "write 0 63 -> 7 | reader 0 1 -> 63 | write 0 0 -> 63 | reader 0 1 -> 0 | reader 0 0 -> 1 | reader 0 2 -> 5 | reader 1 1 -> 63 | count 6 -> 2 | count 3 -> 0",
                TOWN + "write 4 9 -> 9 | count 6 -> 1 | write 4 1 -> 9 | write 4 2 -> 1 | undo -> 2 | reader 4 1 -> 1");
        edges.holds("BAD; STATE: the reader is dead.",
                TOWN + "write -1 0 -> BAD | write 6 0 -> BAD | write 0 -1 -> BAD | write 0 64 -> BAD | write MIN 0 -> BAD | write 0 MAX -> BAD | write 0 0 -> 7 | write 0 63 -> 0",
                TOWN + "write 5 0 -> STATE | write 5 63 -> STATE | write 5 64 -> BAD | write 5 -1 -> BAD | days 1 -> 31 | write 1 0 -> 63 | days 1 -> 29 | write 1 0 -> STATE | undo -> 2 | write 1 1 -> 0",
                "write 0 0 -> BAD | read w0; -> 0 | write 0 0 -> BAD | read w0;p0,0,1; -> 1 | write 0 0 -> 0 | write 1 0 -> BAD");
    }

    private static void deny(Edges edges) {
        edges.in("Promise 11");
        edges.holds("A DEED is DENIED: what it did then (bits).",
                "read w0;p63,0,9;p63,0,0; -> 2 | deny 0 0 -> 62 | deny 0 5 -> 30 | deny 0 3 -> 22 | reader 0 0 -> 22 | deny 1 0 -> 62 | deny 1 5 -> 30 | count 6 -> 5 | reader 0 1 -> 0 | reader 0 2 -> 9",
                "read w0;p32,0,0; -> 1 | deny 0 5 -> 0 | reader 0 0 -> 0 | undo -> 0 | reader 0 0 -> 32");
        edges.holds("BAD; STATE: it did not.",
                "read w0;p63,0,9; -> 1 | deny -1 0 -> BAD | deny 1 0 -> BAD | deny 0 -1 -> BAD | deny 0 6 -> BAD | deny 0 32 -> BAD | deny 0 MIN -> BAD | deny 0 MAX -> BAD | deny MAX 0 -> BAD | deny 0 0 -> 62 | deny 0 5 -> 30",
                "read w0;p30,33,9;p30,33,0; -> 2 | deny 0 0 -> STATE | deny 0 5 -> STATE | deny 1 0 -> STATE | deny 1 5 -> STATE | deny 0 6 -> BAD | deny 0 1 -> 28 | deny 0 1 -> STATE",
                "deny 0 0 -> BAD | read w0; -> 0 | deny 0 0 -> BAD");
    }

    private static void spare(Edges edges) {
        edges.in("Promise 12");
        edges.holds("One is SPARED n DAYS (1 to 60): DAYS it has then.",
                TOWN + "spare 0 1 -> 6 | reader 0 2 -> 6 | count 6 -> 1 | spare 1 58 -> 60 | spare 3 56 -> 59 | spare 3 1 -> 60 | spare 3 1 -> 60 | count 6 -> 5 | reader 0 0 -> 1 | reader 0 1 -> 7",
                "read w0;p0,0,1; -> 1 | spare 0 60 -> 60 | dead 59 -> 0 | dead 60 -> 1 | undo -> 0 | spare 0 59 -> 60 | undo -> 0 | spare 0 58 -> 59 | undo -> 0 | reader 0 2 -> 1",
                "read w0;p0,0,60; -> 1 | spare 0 1 -> 60 | count 6 -> 1 | days 1 -> 1 | spare 0 1 -> 60 | spare 0 60 -> 60");
        edges.holds("BAD; STATE: the reader is dead.",
                TOWN + "spare -1 1 -> BAD | spare 6 1 -> BAD | spare 0 0 -> BAD | spare 0 -1 -> BAD | spare 0 61 -> BAD | spare 0 MIN -> BAD | spare 0 MAX -> BAD | spare 0 1 -> 6 | spare 0 60 -> 60",
                TOWN + "spare 5 1 -> STATE | spare 5 60 -> STATE | spare 5 0 -> BAD | spare 5 61 -> BAD | days 1 -> 31 | spare 1 1 -> 2 | days 2 -> 21 | spare 1 1 -> STATE | undo -> 3 | spare 1 1 -> 2",
                "spare 0 1 -> BAD | read w0; -> 0 | spare 0 1 -> BAD");
    }

    private static void undo(Edges edges) {
        edges.in("Promise 13");
        edges.holds("The latest ACT is undone: how many can be undone yet.",
                TOWN + "days 2 -> 29 | write 0 32 -> 7 | deny 5 2 -> 1 | spare 2 4 -> 11 | undo -> 4 | reader 2 2 -> 7 | undo -> 3 | reader 5 0 -> 5 | undo -> 2 | reader 0 1 -> 7\n"
                        + "undo -> 1 | count 3 -> 1 | reader 1 2 -> 1 | count 2 -> 5 | undo -> 0 | count 3 -> 0 | reader 1 0 -> 0 | reader 1 2 -> 2 | count 6 -> 0",
                // Not what is no ACT: ROWS, tape, TRACE, IMAGES.
                TOWN + "write 0 1 -> 7 | row 0 0 3 -> 3 | feed 119 -> 1 | ask 3 0 -> -98 | image 0 -> 1 | undo -> 0 | count 0 -> 1 | count 7 -> 1 | trace 0 -> 13 | restore 0 -> 1 | reader 0 1 -> 1",
                "read w0;p0,0,9; -> 1 | days 20 -> 0 | days 20 -> 0 | undo -> 23 | count 3 -> 39 | undo -> 22 | count 3 -> 38");
        edges.holds("STATE: none.",
                "undo -> STATE | read w0;p0,0,9; -> 1 | undo -> STATE | days 1 -> 1 | undo -> 0 | undo -> STATE | write 0 1 -> 0 | undo -> 0 | undo -> STATE",
                "read w0;p0,0,9; -> 1 | days 3 -> 1 | image 0 -> 1 | restore 0 -> 1 | undo -> STATE | days 1 -> 1 | read w0; -> 0 | undo -> STATE",
                "read w0;p0,0,60; -> 1 | days 20 -> 1 | days 5 -> 1\n" + Edges.undone(24) + "undo -> STATE | count 3 -> 1");
    }

    private static void reader(Edges edges) {
        edges.in("Promise 14");
        edges.holds("Of a reader: 0 what it did (bits), 1 NOTICE (bits), 2 DAYS it has, 3 FALSE LINES, 4 what it would do this DAY (bits; a dead one 0).",
                TOWN + "reader 0 0 -> 1 | reader 0 1 -> 7 | reader 0 2 -> 5 | reader 0 3 -> 2 | reader 0 4 -> 2 | reader 1 4 -> 3 | reader 2 4 -> 0 | reader 3 4 -> 8 | reader 4 4 -> 2",
                TOWN + "reader 5 0 -> 5 | reader 5 1 -> 5 | reader 5 2 -> 0 | reader 5 3 -> 0 | reader 5 4 -> 0 | deny 5 0 -> 4 | reader 5 3 -> 1 | reader 5 4 -> 0",
                "read w0;p0,63,0;v0,63,0;s0,3,0;c0,0,0;k0,0,0; -> 5 | reader 0 4 -> 0 | reader 1 4 -> 0 | reader 2 4 -> 0 | reader 3 4 -> 0 | reader 4 4 -> 0",
                "read w0;p63,0,60;p0,63,1; -> 2 | reader 0 0 -> 63 | reader 0 1 -> 0 | reader 0 2 -> 60 | reader 0 3 -> 6 | reader 0 4 -> 0 | reader 1 3 -> 6 | ~reader 1 4 -> 1 | days 1 -> 1 | reader 1 4 -> 0");
        edges.holds("BAD.",
                TOWN + "reader -1 0 -> BAD | reader 6 0 -> BAD | reader MIN 0 -> BAD | reader MAX 0 -> BAD | reader 0 -1 -> BAD | reader 0 5 -> BAD | reader 0 MIN -> BAD | reader 0 MAX -> BAD | reader 5 4 -> 0",
                "reader 0 0 -> BAD | reader 0 4 -> BAD | read w0; -> 0 | reader 0 0 -> BAD | read w0;p9,0,0; -> 1 | reader 0 0 -> 9 | reader 1 0 -> BAD");
    }
}

/** What the document's section Terms says in part 3: what is FORETOLD, and the KINDS of READERS. */
final class EdgesOfForesight {
    private static final String TOWN = Edges.TOWN;
    /** ROW 0 tells what a calm one does in 16 DAYS from DAY 0 on; ROW 1 a proud one, behind an ITEM that is 0. */
    private static final String SIXTEEN = Edges.rowOf(0, 0, 1, 1, 3, 3, 7, 7, 15, 15, 31, 31, 63, 63, 63, 63, 63, 63)
            + Edges.rowOf(1, 2, 0, 1, 3, 7, 15, 31, 63, 63, 63, 63, 63, 63, 63, 63, 63, 63, 63);

    static void tell(Edges edges) {
        edges.in("Terms");
        nothingChanges(edges);
        deedsAndLines(edges);
        ends(edges);
        first(edges);
        write(edges);
        deny(edges);
        print(edges);
        rowTells(edges);
        temperAndTold(edges);
        odds(edges);
        kinds(edges);
    }

    private static void nothingChanges(Edges edges) {
        edges.holds("FORETOLD (nothing changes),",
                TOWN + "image 0 -> 1 | days 1 -> 31 | write 0 3 -> 7 | row 0 0 2 -> 2 | set 0 0 3 -> 3 | ask 0 1 -> 2 | feed 119 -> 1\n"
                        + """
                        ~deeds 0 60 -> 3 | ~deeds 4 60 -> 54 | ~lines 1 60 -> 2 | ~dead 60 -> 63 | ~ends 3 -> 6 | ~first 0 -> 1 | ~first 1 -> 1
                        ~toWrite 0 4 0 -> 0 | ~toWrite 0 4 1 -> 7 | ~toWrite 1 63 1 -> NONE | ~toDeny 0 1 -> 0 | ~toDeny 5 0 -> 0 | ~toDeny 1 1 -> NONE
                        ~print 0 -> 4 | ~print 1 -> 3 | ~temper 0 0 0 1 -> 46 | ~told 0 0 0 1 0 -> 4 | ~told 0 0 0 1 1 -> 0 | ~told 0 0 0 2 1 -> NONE
                        ~odds 1 5 0 -> 1 | ~odds 1 5 1 -> 1 | ~reader 0 4 -> 0 | ~reader 3 4 -> 16
                        """);
        edges.holds("d DAYS from now (0 to 60).",
                "read w0;p0,63,60; -> 1 | deeds 0 -1 -> BAD | deeds 0 0 -> 0 | deeds 0 60 -> 63 | deeds 0 61 -> BAD",
                "read w0;p0,63,60; -> 1 | lines 0 -1 -> BAD | lines 0 0 -> 6 | lines 0 60 -> 0 | lines 0 61 -> BAD",
                "read w0;p0,63,60; -> 1 | dead -1 -> BAD | dead 0 -> 0 | dead 59 -> 0 | dead 60 -> 1 | dead 61 -> BAD",
                "read w0;p0,63,60; -> 1 | days 1 -> 1 | deeds 0 0 -> 1 | deeds 0 1 -> 3 | dead 58 -> 0 | dead 59 -> 1 | lines 0 4 -> 1 | lines 0 5 -> 0");
    }

    private static void deedsAndLines(Edges edges) {
        edges.holds("DEEDS one will have done then; FALSE LINES then.",
                // Up to its death, and nothing behind it.
                "read w0;p0,63,2;v0,63,2;s0,3,1;c0,0,2;k0,0,3; -> 5\n"
                        + "deeds 0 1 -> 1 | deeds 0 2 -> 3 | deeds 0 3 -> 3 | deeds 0 60 -> 3 | lines 0 2 -> 4 | lines 0 3 -> 4\n"
                        + "deeds 1 1 -> 3 | deeds 1 2 -> 15 | deeds 1 3 -> 15 | lines 1 2 -> 2 | lines 1 60 -> 2\n"
                        + "deeds 2 0 -> 0 | deeds 2 1 -> 1 | deeds 2 2 -> 1 | lines 2 1 -> 1 | lines 2 2 -> 1\n"
                        + "deeds 3 2 -> 3 | deeds 3 3 -> 3 | lines 3 2 -> 2 | lines 3 3 -> 2\n"
                        + "deeds 4 1 -> 1 | deeds 4 2 -> 1 | deeds 4 3 -> 3 | deeds 4 4 -> 3 | lines 4 3 -> 2 | lines 4 60 -> 2",
                // A calm one from an even DAY on, and from an odd one: its last DEED comes late.
                "read w0;k0,0,60; -> 1 | deeds 0 10 -> 31 | deeds 0 11 -> 63 | days 1 -> 1 | deny 0 0 -> 0 | deeds 0 1 -> 0 | deeds 0 2 -> 1 | deeds 0 11 -> 31 | deeds 0 12 -> 63",
                "read w0;p9,0,0; -> 1 | deeds 0 0 -> 9 | deeds 0 60 -> 9 | lines 0 0 -> 2 | lines 0 60 -> 2");
        edges.holds("Who will be DEAD then (bits).",
                "read w0;p0,0,0;p0,0,1;p0,0,2;p0,0,59;p0,0,60;p0,0,1; -> 6 | dead 0 -> 1 | dead 1 -> 35 | dead 2 -> 39 | dead 58 -> 39 | dead 59 -> 47 | dead 60 -> 63",
                "read w0; -> 0 | dead 0 -> 0 | dead 60 -> 0");
    }

    private static void ends(Edges edges) {
        edges.holds("ENDS: FALSE LINES of one when it dies (of a dead one now);",
                "read w0;p0,63,5;p0,63,6;p0,63,7;p0,63,0;p5,4,0;k0,0,1; -> 6 | ends 0 -> 1 | ends 1 -> 0 | ends 2 -> 0 | ends 3 -> 6 | ends 4 -> 1 | ends 5 -> 1",
                "read w0;p0,63,5;c0,0,60;k0,0,60;s0,7,60; -> 4 | days 5 -> 14 | ends 0 -> 1 | deny 0 0 -> 30 | ends 0 -> 2 | ends 1 -> 6 | ends 2 -> 6 | ends 3 -> 3");
    }

    private static void first(Edges edges) {
        edges.holds("FIRST: the reader whose NOTICE is not TRUE when it dies, of all who live the one who dies first, of several the least; behind how many DAYS; NONE.",
                "read w0; -> 0 | first 0 -> NONE | first 1 -> NONE",
                // Dead ones are none of those, whatever their NOTICES are.
                "read w0;p0,1,0;p1,0,0; -> 2 | first 0 -> NONE | first 1 -> NONE",
                "read w0;p0,1,1;p0,3,2;v0,3,1;s3,3,9; -> 4 | first 0 -> NONE | first 1 -> NONE",
                "read w0;p0,1,0;p1,0,60; -> 2 | first 0 -> 1 | first 1 -> 60",
                "read w0;p0,1,1;p1,0,9;p1,0,8; -> 3 | first 0 -> 2 | first 1 -> 8",
                "read w0;p0,1,1;p1,0,8;p1,0,8; -> 3 | first 0 -> 1 | first 1 -> 8",
                "read w0;p0,0,9;p0,0,9;p0,0,9;p0,0,9;p0,0,9;c0,0,1; -> 6 | first 0 -> 5 | first 1 -> 1",
                // TRUE now, but not when it dies; and the other way round.
                "read w0;c0,0,1; -> 1 | first 0 -> 0 | first 1 -> 1 | days 1 -> 0 | first 0 -> NONE",
                "read w0;p0,3,2; -> 1 | first 0 -> NONE | write 0 7 -> 3 | first 0 -> 0 | first 1 -> 2 | days 1 -> 1 | first 1 -> 1");
    }

    private static void write(Edges edges) {
        edges.holds("WRITE for one who lives, a set of DEEDS: of all NOTICES by which it will have done all these (others, too) when it dies, that with fewest FALSE LINES then, of several the least: how many FALSE LINES; which; NONE.",
                // None and all.
                "read w0;p0,63,6;p0,63,5;v0,0,3;v0,0,2; -> 4 | toWrite 0 0 0 -> 0 | toWrite 0 0 1 -> 0 | toWrite 0 63 0 -> 0 | toWrite 0 63 1 -> 63\n"
                        + "toWrite 1 63 0 -> NONE | toWrite 1 63 1 -> NONE | toWrite 2 63 0 -> 0 | toWrite 2 63 1 -> 63 | toWrite 3 63 1 -> NONE | toWrite 3 60 1 -> 60",
                // Of several that are TRUE the least; what it did is told too, for else a LINE is false.
                "read w0;p1,0,2;p32,0,1; -> 2 | toWrite 0 0 1 -> 1 | toWrite 0 0 0 -> 0 | toWrite 0 1 1 -> 1 | toWrite 0 4 1 -> 5 | toWrite 0 15 1 -> NONE | toWrite 1 32 1 -> 32 | toWrite 1 1 1 -> 33",
                // Others, too: what a cross one does without being asked.
                "read w0;c0,0,1;c0,0,2;c0,0,60;k0,0,1; -> 4 | toWrite 0 0 0 -> 1 | toWrite 0 0 1 -> 0 | toWrite 0 4 0 -> 3 | toWrite 0 4 1 -> 3 | toWrite 0 3 0 -> NONE\n"
                        + "toWrite 1 2 0 -> 2 | toWrite 1 2 1 -> 0 | toWrite 1 32 0 -> 6 | toWrite 1 32 1 -> 15 | toWrite 2 63 0 -> 6 | toWrite 2 63 1 -> 0 | toWrite 3 32 0 -> 6 | toWrite 3 32 1 -> 31",
                // A shy one dares two and no more; from what it has, not from none.
                "read w0;s0,0,60;s1,0,60;s0,0,1; -> 3 | toWrite 0 3 1 -> 3 | toWrite 0 7 1 -> NONE | toWrite 1 7 1 -> 7 | toWrite 1 15 1 -> NONE | toWrite 2 1 1 -> 1 | toWrite 2 3 1 -> NONE",
                // One with two false lines is better than one with six.
                "read w0;s0,0,1;s0,0,0; -> 2 | toWrite 0 32 0 -> 0 | toWrite 0 32 1 -> 32 | toWrite 1 0 0 -> STATE");
    }

    private static void deny(Edges edges) {
        edges.holds("DENY for a reader: the fewest of the DEEDS it did to be DENIED now, so that its NOTICE is TRUE when it dies (of a dead one: now): how many; which (bits), of several the least; NONE.",
                "read w0;p0,0,0;p63,0,0;p33,1,0;p1,33,0;p63,63,0; -> 5 | toDeny 0 0 -> 0 | toDeny 0 1 -> 0 | toDeny 1 0 -> 6 | toDeny 1 1 -> 63\n"
                        + "toDeny 2 0 -> 1 | toDeny 2 1 -> 32 | toDeny 3 0 -> NONE | toDeny 3 1 -> NONE | toDeny 4 0 -> 0",
                // One who lives: what it does yet is counted.
                "read w0;p3,5,1;p3,5,0;p3,13,1;p3,13,2;v56,7,2;v56,7,1; -> 6 | toDeny 0 0 -> 1 | toDeny 0 1 -> 2 | toDeny 1 0 -> NONE | toDeny 2 1 -> NONE | toDeny 3 1 -> 2 | toDeny 4 0 -> 3 | toDeny 4 1 -> 56 | toDeny 5 0 -> NONE",
                // A cross one does anew what is denied, as long as it lives.
                "read w0;c3,1,1;c3,1,0;c0,63,9;c63,63,9;k2,0,1; -> 5 | toDeny 0 0 -> NONE | toDeny 0 1 -> NONE | toDeny 1 0 -> 1 | toDeny 1 1 -> 2 | toDeny 2 0 -> NONE | toDeny 3 0 -> 0 | toDeny 4 0 -> NONE",
                // A calm one on an odd DAY that is its last.
                "read w0;k2,0,2; -> 1 | days 1 -> 1 | toDeny 0 0 -> 2 | toDeny 0 1 -> 3",
                "read w0;s8,7,60;s9,7,60;s9,7,1; -> 3 | toDeny 0 0 -> NONE | toDeny 1 0 -> 1 | toDeny 1 1 -> 8 | toDeny 2 0 -> NONE");
    }

    private static void print(Edges edges) {
        edges.holds("PRINT: of all readers (dead or not) those whose NOTICES (a LINE for each DEED told) have no more LINES together than there are, by which most DEEDS that are told and done now are printed, of several the fewest readers, then the least bits: how many DEEDS; which readers.",
                "read w36; -> 0 | print 0 -> 0 | print 1 -> 0",
                "read w0;p63,0,1;p63,1,1; -> 2 | print 0 -> 0 | print 1 -> 0",
                // As many LINES as there are, one fewer, one more.
                "read w4;p3,3,0;p12,12,9; -> 2 | print 0 -> 4 | print 1 -> 3 | read w3;p3,3,0;p12,12,9; -> 2 | print 0 -> 2 | print 1 -> 1 | read w5;p3,3,0;p12,12,9; -> 2 | print 0 -> 4 | print 1 -> 3",
                "read w1;p3,3,0;p12,12,9; -> 2 | print 0 -> 0 | print 1 -> 0 | read w2;p1,3,0;p12,12,9; -> 2 | print 0 -> 2 | print 1 -> 2",
                "read w36;p63,63,0;v63,63,1;s63,63,0;c63,63,1;k63,63,0;p63,63,1; -> 6 | print 0 -> 36 | print 1 -> 63",
                "read w35;p63,63,0;v63,63,1;s63,63,0;c63,63,1;k63,63,0;p63,63,1; -> 6 | print 0 -> 30 | print 1 -> 31",
                // Of several the fewest readers, and none that adds nothing; then the least bits.
                "read w2;p1,1,0;p1,1,0;p3,3,0; -> 3 | print 0 -> 2 | print 1 -> 4",
                "read w9;p0,0,1;p0,5,1;p8,8,1; -> 3 | print 0 -> 1 | print 1 -> 4",
                "read w2;p1,1,0;p3,3,0;p12,12,0; -> 3 | print 0 -> 2 | print 1 -> 2",
                "read w3;p3,3,0;p1,1,0;p4,4,0;p24,24,1; -> 4 | print 0 -> 3 | print 1 -> 3",
                // What is told and done, of each reader; what is not done costs its LINE.
                "read w3;p1,7,1;p1,1,1; -> 2 | print 0 -> 1 | print 1 -> 1 | write 0 3 -> 7 | print 0 -> 2 | print 1 -> 3",
                // Now, not when they die.
                "read w6;p0,63,9; -> 1 | print 0 -> 0 | print 1 -> 0 | days 1 -> 1 | print 0 -> 1 | print 1 -> 1");
    }

    private static void rowTells(Edges edges) {
        edges.holds("A row tells what one will have done (bits) behind each of n DAYS (1 to 16) from now on.",
                "read w0;k0,0,60; -> 1\n" + SIXTEEN + """
                        temper 0 0 0 0 -> BAD | temper 0 0 0 1 -> 48 | temper 0 0 0 2 -> 32 | temper 0 0 0 16 -> 32 | temper 0 1 0 17 -> BAD | temper 0 0 0 -1 -> BAD
                        told 0 0 0 0 0 -> BAD | told 0 0 0 1 0 -> 32 | told 0 0 0 16 0 -> 1 | told 0 0 0 16 1 -> 0 | told 0 1 0 17 0 -> BAD | told 0 0 0 -1 0 -> BAD
                        """,
                // The last of sixteen counts, and the first; what stands ahead and behind does not.
                "read w0;k0,0,60; -> 1\n" + SIXTEEN + "set 0 15 62 -> 62 | temper 0 0 0 16 -> 0 | told 0 0 0 16 0 -> 0 | temper 0 0 0 15 -> 32 | told 0 0 0 15 0 -> 1",
                "read w0;k0,0,60; -> 1\n" + SIXTEEN + "set 0 0 0 -> 0 | temper 0 0 0 16 -> 0 | told 0 0 0 16 0 -> 0 | told 0 0 0 16 1 -> NONE",
                "read w0;p0,63,60; -> 1\n" + SIXTEEN + "temper 0 1 1 16 -> 2 | told 0 1 1 16 0 -> 1 | told 0 1 1 16 1 -> 63 | temper 0 1 0 16 -> 0 | temper 0 1 2 16 -> PLACE | told 0 1 2 16 0 -> PLACE",
                "read w0;p0,0,9;p0,0,0; -> 2 | row 0 2 2 -> 2 | temper 0 0 0 2 -> 14 | set 0 0 64 -> 64 | temper 0 0 0 1 -> 0 | told 1 0 0 1 0 -> 0 | set 0 0 -1 -> -1 | temper 0 0 0 1 -> 0 | told 0 0 0 1 0 -> 0",
                "read w0;p63,0,0; -> 1 | row 0 0 1 -> 1 | set 0 0 63 -> 63 | temper 0 0 0 1 -> 62 | set 0 0 127 -> 127 | temper 0 0 0 1 -> 0 | set 0 0 -65 -> -65 | temper 0 0 0 1 -> 0");
    }

    private static void temperAndTold(Edges edges) {
        edges.holds("TEMPER: KINDS (bits 1 to 5) of a reader by which it is so.",
                // Of a dead one, and of one who has nothing to do, all or none.
                "read w0;p5,63,0; -> 1 | row 0 0 2 -> 2 | temper 0 0 0 1 -> 0 | set 0 0 5 -> 5 | set 0 1 5 -> 5 | temper 0 0 0 2 -> 62",
                // Each by itself: NOTICE 7 tells three.
                "read w0;k0,7,9; -> 1 | row 0 0 2 -> 2 | set 0 0 1 -> 1 | temper 0 0 0 1 -> 2 | set 0 0 3 -> 3 | temper 0 0 0 1 -> 4 | set 0 0 0 -> 0 | temper 0 0 0 1 -> 8 | set 0 0 8 -> 8 | temper 0 0 0 1 -> 48\n"
                        + "set 0 1 24 -> 24 | temper 0 0 0 2 -> 16 | set 0 1 8 -> 8 | temper 0 0 0 2 -> 32",
                // Of one whose NOTICE tells two, a shy one is as a proud one.
                "read w0;c0,3,9; -> 1 | row 0 0 2 -> 2 | set 0 0 1 -> 1 | temper 0 0 0 1 -> 10 | set 0 1 3 -> 3 | temper 0 0 0 2 -> 10",
                // An odd DAY, and a death within the row.
                "read w0;p0,7,2; -> 1 | days 1 -> 1 | deny 0 0 -> 0 | row 0 0 2 -> 2 | temper 0 0 0 1 -> 40 | temper 0 0 0 2 -> 40 | set 0 0 8 -> 8 | set 0 1 8 -> 8 | temper 0 0 0 2 -> 16");
        edges.holds("TOLD: NOTICES (0 to 63) by which it is so, all else as it is: how many; the least; NONE.",
                "read w0;p5,9,0; -> 1 | row 0 0 1 -> 1 | told 0 0 0 1 0 -> 0 | told 0 0 0 1 1 -> NONE | set 0 0 5 -> 5 | told 0 0 0 1 0 -> 64 | told 0 0 0 1 1 -> 0",
                "read w0;p31,0,1; -> 1 | row 0 0 1 -> 1 | set 0 0 63 -> 63 | told 0 0 0 1 0 -> 32 | told 0 0 0 1 1 -> 32 | set 0 0 31 -> 31 | told 0 0 0 1 0 -> 32 | told 0 0 0 1 1 -> 0",
                "read w0;v0,0,3;c0,0,6;s0,0,2; -> 3 | row 0 0 6 -> 6 | set 0 0 3 -> 3 | set 0 1 15 -> 15 | set 0 2 63 -> 63 | told 0 0 0 3 0 -> 1 | told 0 0 0 3 1 -> 63\n"
                        + "told 1 0 0 1 0 -> 0 | told 1 0 0 1 1 -> NONE | told 2 0 0 1 0 -> 0 | set 0 0 16 -> 16 | set 0 1 48 -> 48 | told 2 0 0 2 0 -> 1 | told 2 0 0 2 1 -> 48 | told 1 0 0 2 0 -> 1 | told 1 0 0 2 1 -> 15",
                // Its own KIND and DAY: a calm one on an odd DAY does nothing, whatever is told.
                "read w0;k0,0,2; -> 1 | days 1 -> 1 | row 0 0 1 -> 1 | told 0 0 0 1 0 -> 0 | set 0 0 1 -> 1 | told 0 0 0 1 0 -> 64 | told 0 0 0 1 1 -> 0");
    }

    private static void odds(Edges edges) {
        String six = "read w0;p0,1,1;v0,3,1;s0,1,1;p1,3,1;p3,7,9;v0,63,3; -> 6\n";
        edges.holds("ODDS: each who lives dies now by c of 10, each by itself (does nothing more), all others as they would:",
                "read w0;p1,3,1; -> 1 | odds 1 -1 0 -> BAD | odds 1 0 0 -> 1 | odds 1 1 0 -> 9 | odds 1 1 1 -> 10 | odds 1 9 0 -> 1 | odds 1 9 1 -> 10 | odds 1 10 0 -> 0 | odds 1 10 1 -> 1 | odds 1 11 0 -> BAD",
                // TRUE now and not then; TRUE now and then; never.
                "read w0;c1,1,1; -> 1 | odds 1 0 0 -> 0 | odds 1 0 1 -> 1 | odds 1 3 0 -> 3 | odds 1 3 1 -> 10 | odds 1 10 0 -> 1 | odds 1 10 1 -> 1",
                "read w0;p1,1,9; -> 1 | odds 1 3 0 -> 1 | odds 1 3 1 -> 1 | read w0;p2,1,9; -> 1 | odds 1 3 0 -> 0 | odds 1 3 1 -> 1",
                // Dead ones are as they are.
                "read w0;p1,1,0;p0,1,0;p1,3,1; -> 3 | odds 1 3 0 -> 1 | odds 1 3 1 -> 1 | odds 2 3 0 -> 7 | odds 2 3 1 -> 10 | odds 3 3 0 -> 0 | odds 3 3 1 -> 1",
                // Each by itself.
                "read w0;p1,3,1;c1,1,1; -> 2 | odds 2 3 0 -> 21 | odds 2 3 1 -> 100 | odds 1 3 0 -> 79 | odds 1 3 1 -> 100");
        edges.holds("that k (0 to 6) NOTICES, or more, are TRUE when all are dead: a fraction.",
                six + "odds -1 1 0 -> BAD | odds 0 1 0 -> 1 | odds 0 1 1 -> 1 | odds 6 1 0 -> 531441 | odds 6 1 1 -> 1000000 | odds 7 1 0 -> BAD",
                six + "odds 1 9 0 -> 468559 | odds 1 9 1 -> 1000000 | odds 5 5 0 -> 7 | odds 5 5 1 -> 64 | odds 3 5 0 -> 21 | odds 3 5 1 -> 32 | odds 6 10 0 -> 0 | odds 6 10 1 -> 1",
                "read w0; -> 0 | odds 0 5 0 -> 1 | odds 0 5 1 -> 1 | odds 1 5 0 -> 0 | odds 1 5 1 -> 1 | odds 6 0 0 -> 0 | odds 6 0 1 -> 1",
                "read w0;p0,0,0; -> 1 | odds 1 5 0 -> 1 | odds 2 5 0 -> 0 | odds 2 5 1 -> 1");
    }

    private static void kinds(Edges edges) {
        edges.holds("KINDS of READERS: 0 READER; 1 PROUD, a READER; 2 VAIN, a PROUD; 3 SHY, a PROUD; 4 CROSS, a READER; 5 CALM, a CROSS. By this it is asked.",
                TOWN + "as 0 -1 -> BAD | as 0 0 -> 0 | as 0 1 -> 0 | as 0 2 -> KIND | as 0 3 -> KIND | as 0 4 -> KIND | as 0 5 -> KIND | as 0 6 -> BAD",
                TOWN + "as 1 0 -> 1 | as 1 1 -> 1 | as 1 2 -> 1 | as 1 3 -> KIND | as 1 4 -> KIND | as 1 5 -> KIND | as 1 6 -> BAD",
                TOWN + "as 2 0 -> 2 | as 2 1 -> 2 | as 2 2 -> KIND | as 2 3 -> 2 | as 2 4 -> KIND | as 2 5 -> KIND | as 2 6 -> BAD",
                TOWN + "as 3 0 -> 3 | as 3 1 -> KIND | as 3 2 -> KIND | as 3 3 -> KIND | as 3 4 -> 3 | as 3 5 -> KIND | as 3 6 -> BAD",
                TOWN + "as 4 0 -> 4 | as 4 1 -> KIND | as 4 2 -> KIND | as 4 3 -> KIND | as 4 4 -> 4 | as 4 5 -> 4 | as 4 6 -> BAD");
    }
}

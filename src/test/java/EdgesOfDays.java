/** What the document's section Terms says in part 2: a DAY, FALSE LINES and ACTS. */
final class EdgesOfDays {
    static void tell(Edges edges) {
        edges.in("Terms");
        tempers(edges);
        aDay(edges);
        falseLines(edges);
        acts(edges);
    }

    private static void tempers(Edges edges) {
        edges.holds("A DAY of one who lives: a proud one does the least DEED that NOTICE tells and it did not do;",
                // The least one and the greatest, and none of those that are done or not told.
                "read w0;p0,63,9; -> 1 | reader 0 4 -> 1 | days 1 -> 1 | reader 0 0 -> 1 | days 5 -> 1 | reader 0 0 -> 63 | days 1 -> 1 | reader 0 0 -> 63",
                "read w0;p31,63,9; -> 1 | reader 0 4 -> 32 | days 1 -> 1 | reader 0 0 -> 63",
                "read w0;p5,36,9; -> 1 | reader 0 4 -> 32 | days 1 -> 1 | reader 0 0 -> 37 | reader 0 4 -> 0",
                "read w0;p0,1,0; -> 1 | reader 0 4 -> 0 | days 1 -> 0 | reader 0 0 -> 0");
        edges.holds("a vain one does two of these, the least ones;",
                "read w0;v0,63,9; -> 1 | reader 0 4 -> 3 | days 1 -> 1 | reader 0 0 -> 3 | days 1 -> 1 | reader 0 0 -> 15 | days 1 -> 1 | reader 0 0 -> 63",
                "read w0;v2,55,9; -> 1 | reader 0 4 -> 5 | days 1 -> 1 | reader 0 0 -> 7 | reader 0 4 -> 48",
                // Two, one, none.
                "read w0;v0,7,9; -> 1 | days 1 -> 1 | reader 0 0 -> 3 | reader 0 4 -> 4 | days 1 -> 1 | reader 0 0 -> 7 | reader 0 4 -> 0 | days 1 -> 1 | reader 0 0 -> 7",
                "read w0;v8,32,9; -> 1 | reader 0 4 -> 32 | days 1 -> 1 | reader 0 0 -> 40");
        edges.holds("a shy one does as a proud one, if there are 2 of these at most, else nothing;",
                "read w0;s0,0,9;s0,4,9;s0,36,9;s0,37,9;s1,37,9;s0,63,9; -> 6 | reader 0 4 -> 0 | reader 1 4 -> 4 | reader 2 4 -> 4 | reader 3 4 -> 0 | reader 4 4 -> 4 | reader 5 4 -> 0",
                "read w0;s0,36,9;s0,37,9; -> 2 | days 1 -> 3 | reader 0 0 -> 4 | reader 1 0 -> 0 | days 1 -> 3 | reader 0 0 -> 36 | reader 1 0 -> 0 | reader 1 2 -> 7");
        edges.holds("a cross one does the least DEED that NOTICE does not tell and it did not do;",
                "read w0;c0,0,9; -> 1 | reader 0 4 -> 1 | days 6 -> 1 | reader 0 0 -> 63 | days 1 -> 1 | reader 0 0 -> 63",
                "read w0;c4,3,9; -> 1 | reader 0 4 -> 8 | days 1 -> 1 | reader 0 0 -> 12 | days 2 -> 1 | reader 0 0 -> 60 | reader 0 4 -> 0 | days 1 -> 1 | reader 0 0 -> 60",
                "read w0;c0,31,9; -> 1 | reader 0 4 -> 32 | days 1 -> 1 | reader 0 0 -> 32 | reader 0 4 -> 0");
        edges.holds("a calm one does as a cross one, but in even DAYS only.",
                "read w0;k4,3,9; -> 1 | count 3 -> 0 | reader 0 4 -> 8 | days 1 -> 1 | reader 0 0 -> 12 | count 3 -> 1 | reader 0 4 -> 0 | days 1 -> 1 | reader 0 0 -> 12",
                "read w0;k0,0,9;c0,0,9; -> 2 | days 2 -> 3 | reader 0 0 -> 1 | reader 1 0 -> 3 | reader 0 4 -> 2 | days 1 -> 3 | reader 0 0 -> 3 | reader 0 2 -> 6",
                // The DAY is told by the TOWN, not by what a reader has lived.
                "read w0;k0,0,1;k0,0,2; -> 2 | days 1 -> 2 | days 1 -> 0 | reader 0 0 -> 1 | reader 1 0 -> 1");
        edges.holds("(Where there is none, nothing.)",
                "read w0;p63,63,9;v63,63,9;s0,0,9;c0,63,9;k63,0,9;c42,21,9; -> 6\n"
                        + "reader 0 4 -> 0 | reader 1 4 -> 0 | reader 2 4 -> 0 | reader 3 4 -> 0 | reader 4 4 -> 0 | reader 5 4 -> 0\n"
                        + "days 1 -> 63 | reader 0 0 -> 63 | reader 1 0 -> 63 | reader 2 0 -> 0 | reader 3 0 -> 0 | reader 4 0 -> 63 | reader 5 0 -> 42");
    }

    private static void aDay(Edges edges) {
        edges.holds("Then it has a DAY less. DAY is 1 more.",
                "read w0;p0,0,60;v0,0,1;k0,0,0; -> 3 | days 1 -> 1 | reader 0 2 -> 59 | reader 1 2 -> 0 | reader 2 2 -> 0 | count 3 -> 1 | days 1 -> 1 | count 3 -> 2 | reader 0 2 -> 58 | reader 1 2 -> 0",
                "read w0; -> 0 | count 3 -> 0 | days 1 -> 0 | count 3 -> 1 | days 20 -> 0 | count 3 -> 21");
        edges.holds("By 0 DAYS it is dead: it does nothing more.",
                // Of its last DAY the deed is done yet.
                "read w0;p0,63,1;v0,63,1;s0,3,1;c0,0,1;k0,0,1; -> 5 | count 2 -> 5 | days 1 -> 0 | count 2 -> 0\n"
                        + "reader 0 0 -> 1 | reader 1 0 -> 3 | reader 2 0 -> 1 | reader 3 0 -> 1 | reader 4 0 -> 1\n"
                        + "days 2 -> 0 | reader 0 0 -> 1 | reader 1 0 -> 3 | reader 2 0 -> 1 | reader 3 0 -> 1 | reader 4 0 -> 1 | dead 0 -> 31",
                "read w0;p0,63,0; -> 1 | dead 0 -> 1 | reader 0 4 -> 0 | days 3 -> 0 | reader 0 0 -> 0 | reader 0 2 -> 0");
    }

    private static void falseLines(Edges edges) {
        edges.holds("FALSE LINES of a reader: DEEDS that NOTICE tells and it did not do, and such as it did and NOTICE does not tell.",
                "read w0;p0,0,1;p63,63,1;p0,63,1;p63,0,1;p1,2,0;p7,14,1; -> 6\n"
                        + "reader 0 3 -> 0 | reader 1 3 -> 0 | reader 2 3 -> 6 | reader 3 3 -> 6 | reader 4 3 -> 2 | reader 5 3 -> 2",
                "read w0;p0,32,1;p32,0,0; -> 2 | reader 0 3 -> 1 | reader 1 3 -> 1");
        edges.holds("A NOTICE is TRUE, if there are none.",
                "read w0; -> 0 | count 5 -> 0 | read w0;p0,0,0; -> 1 | count 5 -> 1 | read w0;p1,0,0; -> 1 | count 5 -> 0 | read w0;p0,1,1; -> 1 | count 5 -> 0 | days 1 -> 0 | count 5 -> 1",
                "read w0;p0,0,1;v9,9,0;s1,1,1;c63,63,9;k5,5,60;p8,8,8; -> 6 | count 5 -> 6 | deny 1 3 -> 1 | count 5 -> 5");
    }

    private static void acts(Edges edges) {
        String one = "read w0;p0,0,60; -> 1\n";
        edges.holds("ACTS (24 at most are kept, of more the oldest is forgotten;",
                one + writes(1, 23) + "count 6 -> 23 | write 0 24 -> 23 | count 6 -> 24 | write 0 25 -> 24 | count 6 -> 24\n" + undoes(24, 24) + "undo -> STATE | reader 0 1 -> 1",
                // Exactly as many as are kept: all comes back.
                one + writes(1, 24) + undoes(24, 23) + "undo -> STATE | reader 0 1 -> 0",
                // Around twice and more, with days among them.
                one + writes(1, 60) + "days 7 -> 1 | count 6 -> 24 | reader 0 0 -> 60 | undo -> 23 | undo -> 22 | undo -> 21 | undo -> 20 | undo -> 19 | undo -> 18 | undo -> 17\n"
                        + undoes(17, 59) + "undo -> STATE | reader 0 1 -> 43 | count 3 -> 0",
                // What is undone makes room anew.
                one + writes(1, 30) + "undo -> 23 | undo -> 22 | write 0 1 -> 28 | write 0 2 -> 1 | write 0 3 -> 2 | count 6 -> 24 | undo -> 23 | undo -> 22 | undo -> 21 | reader 0 1 -> 28",
                one + "days 20 -> 1 | count 6 -> 20 | days 4 -> 1 | count 6 -> 24 | days 1 -> 1 | count 6 -> 24\n" + Edges.undone(24) + "count 3 -> 1 | undo -> STATE");
        edges.holds("each can be undone, the latest first):",
                "read w0;p1,6,5; -> 1 | write 0 2 -> 6 | deny 0 0 -> 0 | spare 0 4 -> 9 | days 1 -> 1 | count 6 -> 4 | reader 0 0 -> 2 | reader 0 2 -> 8\n"
                        + "undo -> 3 | count 3 -> 0 | reader 0 0 -> 0 | reader 0 2 -> 9 | undo -> 2 | reader 0 2 -> 5 | reader 0 0 -> 0\n"
                        + "undo -> 1 | reader 0 0 -> 1 | reader 0 1 -> 2 | undo -> 0 | reader 0 1 -> 6 | undo -> STATE");
        edges.holds("a DAY;",
                "read w0;p0,3,1;k0,0,9; -> 2 | days 1 -> 2 | count 6 -> 1 | undo -> 0 | count 3 -> 0 | reader 0 0 -> 0 | reader 0 2 -> 1 | reader 1 0 -> 0 | reader 1 2 -> 9 | count 2 -> 2",
                // A DAY of a TOWN of dead ones, or of none, is one too.
                "read w0;p0,3,0; -> 1 | days 3 -> 0 | count 6 -> 3 | undo -> 2 | count 3 -> 2",
                "read w0; -> 0 | days 2 -> 0 | count 6 -> 2 | undo -> 1 | count 3 -> 1");
        edges.holds("a NOTICE of one who lives is another;",
                "read w0;p0,3,1;p0,3,0; -> 2 | write 0 63 -> 3 | count 6 -> 1 | write 1 63 -> STATE | days 1 -> 0 | write 0 1 -> STATE | undo -> 1 | write 0 0 -> 63 | undo -> 1 | undo -> 0 | reader 0 1 -> 3");
        edges.holds("a DEED one did (dead or not) is DENIED: it did not;",
                "read w0;p33,3,1;p33,3,0; -> 2 | deny 0 0 -> 32 | deny 1 5 -> 1 | count 6 -> 2 | reader 0 0 -> 32 | reader 1 0 -> 1 | undo -> 1 | reader 1 0 -> 33 | undo -> 0 | reader 0 0 -> 33",
                "read w0;p1,1,2; -> 1 | deny 0 0 -> 0 | deny 0 0 -> STATE | days 1 -> 1 | reader 0 0 -> 1 | deny 0 0 -> 0");
        edges.holds("one who lives is SPARED: it has n DAYS more (60 at most).",
                "read w0;p0,3,1;p0,3,0; -> 2 | spare 0 1 -> 2 | spare 1 1 -> STATE | days 2 -> 0 | spare 0 1 -> STATE | count 6 -> 3",
                "read w0;p0,0,10; -> 1 | spare 0 49 -> 59 | undo -> 0 | spare 0 50 -> 60 | undo -> 0 | spare 0 51 -> 60 | reader 0 2 -> 60 | undo -> 0 | reader 0 2 -> 10",
                "read w0;p0,0,60; -> 1 | spare 0 60 -> 60 | count 6 -> 1 | reader 0 2 -> 60 | undo -> 0 | reader 0 2 -> 60");
    }

    /** NOTICES of reader 0 that are written one behind the other, each 1 more than the one before. */
    private static String writes(int from, int to) {
        StringBuilder run = new StringBuilder();
        for (int notice = from; notice <= to; notice++) {
            run.append("write 0 ").append(notice).append(" -> ").append(notice - 1).append('\n');
        }
        return run.toString();
    }

    /** All ACTS, so many, are undone: the NOTICE goes down by 1 each time, to this one first. */
    private static String undoes(int acts, int notice) {
        StringBuilder run = new StringBuilder();
        for (int k = 1; k <= acts; k++) {
            run.append("undo -> ").append(acts - k).append(" | reader 0 1 -> ").append(notice + 1 - k).append('\n');
        }
        return run.toString();
    }
}

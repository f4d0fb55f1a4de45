/** What the document's section Terms says in part 4: the ASKS and their BODIES. */
final class EdgesOfBodies {
    /** One of each KIND; the numbers go up, so that MARK tells who was asked. */
    private static final String TOWN = "read w9;p1,7,5;v3,63,2;s2,61,9;c4,3,3;k0,9,60;p5,5,0; -> 6\n";

    static void tell(Edges edges) {
        edges.in("Terms");
        trace(edges);
        size(edges);
        mark(edges);
        whichBody(edges);
    }

    private static void trace(Edges edges) {
        edges.holds("ASKS of READERS, by BODIES, each of which leaves its number in THE TRACE as it begins (the first 16):",
                asked(0, 0, 4, 11, 10, 21, 20), asked(0, 1, 1, 21, 20),
                asked(1, 0, -12, 12, 11, 10, 24, 21, 20), asked(1, 1, 6, 24, 21, 20),
                asked(2, 0, -992, 11, 10, 22, 21, 20), asked(2, 1, -997, 22, 21, 20),
                asked(3, 0, -98, 13, 10), asked(3, 1, 101, 23, 20, 13, 10),
                asked(4, 0, -196, 14, 13, 10), asked(4, 1, 200, 23, 20, 14, 13, 10),
                TOWN + "trace 0 -> NONE | trace 15 -> NONE | trace 16 -> NONE");
    }

    private static void size(Edges edges) {
        edges.holds("0 SIZE: 10 lent to all READERS: how many DEEDS NOTICE tells.",
                "read w0;c0,0,1;c0,63,1;c63,32,0; -> 3 | ask 0 0 -> -100 | trace 0 -> 13 | trace 1 -> 10 | ask 1 0 -> -94 | ask 2 0 -> -99");
        edges.holds("11 of PROUD ones: what 10 gives, and MARK.",
                "read w0;p0,0,1;p63,63,0; -> 2 | ask 0 0 -> 0 | trace 0 -> 11 | trace 1 -> 10 | trace 2 -> 21 | ask 1 0 -> 13");
        edges.holds("12 of VAIN ones: 0 less what 11 gives.",
                "read w0;v0,0,1;v63,63,0; -> 2 | ask 0 0 -> 0 | trace 0 -> 12 | trace 1 -> 11 | ask 1 0 -> -20");
        edges.holds("13 of CROSS ones: what 10 gives, less 100.",
                "read w0;c0,0,1;c0,63,0; -> 2 | ask 0 0 -> -100 | ask 1 0 -> -94 | trace 0 -> 13 | trace 1 -> 10 | trace 2 -> NONE");
        edges.holds("14 of CALM ones: what 13 gives, twice.",
                "read w0;k0,0,1;k0,63,0; -> 2 | ask 0 0 -> -200 | ask 1 0 -> -188 | trace 0 -> 14 | trace 1 -> 13 | trace 2 -> 10 | trace 3 -> NONE");
    }

    private static void mark(Edges edges) {
        edges.holds("1 MARK: 20 lent to all READERS: the number.",
                "read w0;p0,0,1;p0,0,1;p0,0,1;p0,0,1;p0,0,1;p0,0,0; -> 6 | ask 0 1 -> 0 | ask 1 1 -> 1 | ask 5 1 -> 5 | trace 0 -> 21 | trace 1 -> 20");
        edges.holds("21 of PROUD ones: what 20 gives, and how many DEEDS it did.",
                "read w0;p0,63,1;p63,0,1;p32,0,0; -> 3 | ask 0 1 -> 0 | ask 1 1 -> 7 | ask 2 1 -> 3 | days 1 -> 0 | ask 0 1 -> 1");
        edges.holds("22 of SHY ones: what 21 gives, less 1000.",
                "read w0;s0,0,1;s63,0,0; -> 2 | ask 0 1 -> -1000 | ask 1 1 -> -993 | trace 0 -> 22 | trace 1 -> 21 | trace 2 -> 20 | trace 3 -> NONE");
        edges.holds("23 of CROSS ones: what 20 gives, less SIZE.",
                "read w0;c0,0,1;c63,63,0; -> 2 | ask 0 1 -> 100 | ask 1 1 -> 95 | trace 0 -> 23 | trace 1 -> 20 | trace 2 -> 13 | trace 3 -> 10 | trace 4 -> NONE");
        edges.holds("24 of VAIN ones: what 21 gives, twice.",
                "read w0;v0,0,1;v63,0,0; -> 2 | ask 0 1 -> 0 | ask 1 1 -> 14 | trace 0 -> 24 | trace 1 -> 21 | trace 2 -> 20 | trace 3 -> NONE");
    }

    private static void whichBody(Edges edges) {
        edges.holds("(Of an ask the BODY told for the KIND begins, else that of the nearest KIND that it is, too, else the one that is lent;",
                // Its own; that of PROUD for a SHY one's SIZE; that of CROSS for a CALM one's MARK.
                TOWN + "ask 1 0 -> -12 | trace 0 -> 12 | ask 2 0 -> -992 | trace 0 -> 11 | ask 4 1 -> 200 | trace 0 -> 23 | ask 4 0 -> -196 | trace 0 -> 14");
        edges.holds("SIZE, MARK within others are asked of the same READER anew.)",
                // 11 asks a VAIN one's own MARK (24), a SHY one's (22); 23 a CALM one's own SIZE (14).
                TOWN + "ask 1 0 -> -12 | trace 3 -> 24 | ask 2 0 -> -992 | trace 2 -> 22 | ask 4 1 -> 200 | trace 2 -> 14 | ask 3 1 -> 101 | trace 2 -> 13");
    }

    /** One ask behind a longer one: what it answers, and THE TRACE whole. */
    private static String asked(int reader, int what, int answer, int... numbers) {
        StringBuilder run = new StringBuilder(TOWN).append("ask 1 0 -> -12\n");
        run.append("ask ").append(reader).append(' ').append(what).append(" -> ").append(answer).append('\n');
        for (int i = 0; i < 17; i++) {
            run.append("trace ").append(i).append(" -> ").append(i < numbers.length ? "" + numbers[i] : "NONE").append('\n');
        }
        return run.toString();
    }
}

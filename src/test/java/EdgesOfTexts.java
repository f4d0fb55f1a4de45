import java.util.ArrayList;
import java.util.List;

/** What the document's section Terms says in part 1: ROWS, TEXTS and FAULTS. */
final class EdgesOfTexts {
    private static final String SIX = "w1;" + "p0,0,1;".repeat(6);

    static void tell(Edges edges) {
        edges.in("Terms");
        rows(edges);
        tape(edges);
        tokens(edges);
        grammar(edges);
        newTown(edges);
        faults(edges);
    }

    private static void rows(Edges edges) {
        edges.holds("ROWS 0 .. 7 are missing (at first),",
                "count 0 -> 0 | drop 0 -> NULL | drop 1 -> NULL | drop 2 -> NULL | drop 3 -> NULL | drop 4 -> NULL | drop 5 -> NULL | drop 6 -> NULL | drop 7 -> NULL",
                "drop -1 -> BAD | drop 8 -> BAD | set -1 0 0 -> BAD | set 8 0 0 -> BAD | set 0 0 0 -> NULL | set 7 0 0 -> NULL",
                "row 0 0 1 -> 1 | row 7 0 1 -> 1 | count 0 -> 2 | set 0 0 1 -> 1 | set 7 0 2 -> 2 | row -1 0 1 -> BAD | row 8 0 1 -> BAD");
        edges.holds("or have a LANE (0 bytes, 1 shorts, 2 ints)",
                "row 0 -1 1 -> BAD | row 0 3 1 -> BAD | count 0 -> 0",
                "row 0 0 1 -> 1 | set 0 0 127 -> 127 | set 0 0 128 -> -128 | set 0 0 -128 -> -128 | set 0 0 -129 -> 127",
                "row 0 1 1 -> 1 | set 0 0 32767 -> 32767 | set 0 0 32768 -> -32768 | set 0 0 -32768 -> -32768 | set 0 0 -32769 -> 32767",
                "row 0 2 1 -> 1 | set 0 0 MAX -> MAX | set 0 0 MIN -> MIN");
        StringBuilder zeros = new StringBuilder("read w0;p0,0,0; -> 1 | row 3 2 40 -> 40\n");
        StringBuilder ones = new StringBuilder();
        for (int i = 0; i < 40; i++) {
            zeros.append("told 0 3 ").append(i).append(" 1 0 -> 64\n");
            ones.append("set 3 ").append(i).append(" 1 -> 1\n");
        }
        edges.holds("and 0 to 40 ITEMS, 0 at first.",
                "row 0 0 -1 -> SIZE | row 0 0 0 -> 0 | set 0 0 1 -> PLACE | row 0 0 40 -> 40 | set 0 39 1 -> 1 | set 0 40 1 -> PLACE | row 0 0 41 -> BAD",
                "row 0 1 40 -> 40 | row 1 2 40 -> 40 | row 7 0 40 -> 40 | set 0 39 5 -> 5 | set 7 39 5 -> 5 | drop 0 -> 40 | drop 7 -> 40",
                zeros.toString(),
                // A ROW in place of another one, too.
                "row 3 2 40 -> 40\n" + ones + zeros,
                "row 3 2 40 -> 40\n" + ones + "drop 3 -> 40\n" + zeros);
    }

    private static void tape(Edges edges) {
        String first119 = Edges.feeding("w".repeat(119), 0);
        edges.holds("TEXTS: THE TAPE has at most 120 bytes, that come one by one;",
                first119 + "count 7 -> 119 | feed 119 -> 120 | count 7 -> 120 | feed 119 -> FULL | count 7 -> 120",
                first119 + "feed 119 -> 120 | town -> FAULT@1 | count 7 -> 0 | feed 119 -> 1 | feed 48 -> 2 | feed 59 -> 3 | town -> 0",
                "feed 119 -> 1 | days 1 -> STATE | feed 57 -> 2 | count 7 -> 2 | feed 59 -> 3 | town -> 0 | count 4 -> 9");
    }

    private static void tokens(Edges edges) {
        edges.holds("TOKENS: letters a to z (each by itself),", behindPrefixes());
        edges.holds("NUMBERS (figures, 2 at most),",
                "read w0; -> 0 | read w00; -> 0 | count 4 -> 0 | read w09; -> 0 | count 4 -> 9 | read w9; -> 0 | read w10; -> 0 | count 4 -> 10",
                "read w000; -> FAULT@1 | fault -> 1 | read w010; -> FAULT@1 | fault -> 1 | read w100; -> FAULT@1 | fault -> 1",
                "read w0;p00,01,09; -> 1 | reader 0 0 -> 0 | reader 0 1 -> 1 | reader 0 2 -> 9",
                "read w0;p000,0,0; -> FAULT@4 | fault -> 1 | read w0;p0,001,0; -> FAULT@6 | fault -> 1 | read w0;p0,0,060; -> FAULT@8 | fault -> 1");
        edges.holds("SIGNS , and ; nothing else, no blanks.",
                Edges.feeding(" w1;", 0) + "town -> FAULT@0 | fault -> 1",
                Edges.feeding("w 1;", 0) + "town -> FAULT@1 | fault -> 1",
                Edges.feeding("w1 ;", 0) + "town -> FAULT@2 | fault -> 1",
                Edges.feeding("w1; ", 0) + "town -> FAULT@3 | fault -> 1",
                Edges.feeding("w1;p1 ,2,3;", 0) + "town -> FAULT@5 | fault -> 1",
                Edges.feeding("w1;p1, 2,3;", 0) + "town -> FAULT@6 | fault -> 1",
                Edges.feeding("w1;p1,2,3;\n", 0) + "town -> FAULT@10 | fault -> 1",
                Edges.feeding("w1:", 0) + "town -> FAULT@2 | fault -> 1",
                Edges.feeding("w1;p1.2,3;", 0) + "town -> FAULT@5 | fault -> 1",
                Edges.feeding("w-1;", 0) + "town -> FAULT@1 | fault -> 1",
                Edges.feeding("w+1;", 0) + "town -> FAULT@1 | fault -> 1");
    }

    /** Every byte there is behind every kind of beginning: it is refused where it stands, or goes on. */
    private static String[] behindPrefixes() {
        String[][] goesOn = {{"", "w"}, {"w", "0123456789"}, {"w1", "0123456789;"}, {"w12", ";"}, {"w1;", "pvsck"},
            {"w1;p", "0123456789"}, {"w1;v1", "0123456789,"}, {"w1;s1,", "0123456789"}, {"w1;c1,2", "0123456789,"},
            {"w1;k1,2,", "0123456789"}, {"w1;p1,2,3", "0123456789;"}, {"w1;p1,2,3;", "pvsck"}};
        List<String> runs = new ArrayList<>();
        for (String[] one : goesOn) {
            for (int letter = 0; letter < 256; letter++) {
                boolean goes = one[1].indexOf(letter) >= 0;
                runs.add("town -> FAULT@0\n" + Edges.feeding(one[0] + (char) letter, 0)
                        + "town -> " + answerBehind(one[0], letter, goes) + " | fault -> 1");
            }
        }
        return runs.toArray(new String[0]);
    }

    private static String answerBehind(String prefix, int letter, boolean goes) {
        if (goes && letter == ';') {
            return prefix.startsWith("w1;") ? "1" : "0";
        }
        boolean thirdFigure = prefix.equals("w12") && letter >= '0' && letter <= '9';
        return "FAULT@" + (goes ? prefix.length() + 1 : thirdFigure ? 1 : prefix.length());
    }

    private static void grammar(Edges edges) {
        edges.holds("town: law { reader }.",
                "town -> FAULT@0 | fault -> 1 | count 1 -> 0 | days 1 -> STATE",
                "read w7; -> 0 | count 1 -> 0 | count 4 -> 7 | days 1 -> 0 | reader 0 0 -> BAD",
                "read p0,0,0; -> FAULT@0 | fault -> 1 | read w7;w7; -> FAULT@3 | fault -> 1 | read w7;p0,0,0;w7; -> FAULT@10 | fault -> 1",
                "read w7;p1,2,3;v4,5,6; -> 2 | reader 0 0 -> 1 | reader 0 1 -> 2 | reader 0 2 -> 3 | reader 1 0 -> 4 | reader 1 1 -> 5 | reader 1 2 -> 6");
        edges.holds("law: w LINES ; (0 to 36).",
                "read w0; -> 0 | count 4 -> 0 | read w36; -> 0 | count 4 -> 36 | read w37; -> FAULT@1 | fault -> 2 | count 4 -> 36 | read w99; -> FAULT@1 | fault -> 2",
                "read w; -> FAULT@1 | fault -> 1 | read w1 -> FAULT@2 | fault -> 1 | read w1, -> FAULT@2 | fault -> 1");
        StringBuilder sorts = new StringBuilder("read w0;p0,0,0;v0,0,0;s0,0,0;c0,0,0;k0,0,0; -> 5\n");
        sorts.append("kind 0 -> 1 | kind 1 -> 2 | kind 2 -> 3 | kind 3 -> 4 | kind 4 -> 5\n");
        for (char letter = 'a'; letter <= 'z'; letter++) {
            boolean sort = "pvsck".indexOf(letter) >= 0;
            sorts.append("read w0;").append(letter).append("0,0,0; -> ").append(sort ? "1" : "FAULT@3 | fault -> 1").append('\n');
        }
        edges.holds("reader: SORT DID , NOTICE , DAYS ; (SORT: p a proud one, v a vain one, s a shy one, c a cross one, k a calm one;", sorts.toString());
        edges.holds("sets of DEEDS 0 to 5, bits, 0 to 63 each;",
                "read w0;p0,0,1; -> 1 | reader 0 0 -> 0 | reader 0 1 -> 0 | read w0;p63,63,1; -> 1 | reader 0 0 -> 63 | reader 0 1 -> 63",
                "read w0;p64,0,1; -> FAULT@4 | fault -> 2 | read w0;p0,64,1; -> FAULT@6 | fault -> 2 | read w0;p99,0,1; -> FAULT@4 | fault -> 2",
                "read w0;p32,1,0; -> 1 | deny 0 0 -> STATE | deny 0 6 -> BAD | deny 0 5 -> 0");
        edges.holds("0 to 60: DAYS it has yet;",
                "read w0;p0,0,0; -> 1 | reader 0 2 -> 0 | count 2 -> 0 | read w0;p0,0,60; -> 1 | reader 0 2 -> 60 | dead 59 -> 0 | dead 60 -> 1",
                "read w0;p0,0,61; -> FAULT@8 | fault -> 2 | read w0;p0,0,99; -> FAULT@8 | fault -> 2");
        edges.holds("READERS 0 .. 5, 6 at most).",
                "read w1; -> 0 | reader 0 0 -> BAD | read w1;p0,0,1; -> 1 | reader 0 2 -> 1 | reader 1 0 -> BAD",
                "read " + SIX + " -> 6 | reader 5 2 -> 1 | reader 6 2 -> BAD | count 1 -> 6",
                "read " + SIX + "p0,0,1; -> FAULT@45 | fault -> 3 | count 1 -> 0");
    }

    private static void newTown(Edges edges) {
        String before = "read w9;p1,7,5;v2,63,60; -> 2 | days 3 -> 3 | write 0 1 -> 7 | count 6 -> 4\n";
        edges.holds("A TOWN that is read stands in place of the one before (none at first):",
                "count 1 -> 0 | days 1 -> STATE | kind 0 -> BAD",
                before + "read w5;c0,8,1; -> 1 | count 1 -> 1 | count 4 -> 5 | kind 0 -> 4 | reader 0 1 -> 8 | reader 0 2 -> 1 | kind 1 -> BAD | reader 1 0 -> BAD",
                before + "read w5; -> 0 | count 1 -> 0 | count 2 -> 0 | count 5 -> 0 | kind 0 -> BAD | days 1 -> 0");
        edges.holds("DAY 0; who has 0 DAYS is dead; no ACT can be undone.",
                before + "count 3 -> 3 | read w5;k0,0,9; -> 1 | count 3 -> 0 | reader 0 4 -> 1",
                "read w0;p0,1,0;p0,1,1; -> 2 | count 2 -> 1 | dead 0 -> 1 | days 1 -> 0 | reader 0 0 -> 0 | reader 1 0 -> 1 | write 0 0 -> STATE",
                before + "read w5;c0,8,1; -> 1 | count 6 -> 0 | undo -> STATE | days 1 -> 0 | count 6 -> 1 | undo -> 0 | undo -> STATE");
    }

    private static void faults(Edges edges) {
        edges.holds("FAULTS, the first TOKEN that has one (its first byte),",
                "read w37,x -> FAULT@1 | fault -> 2 | read w1,99 -> FAULT@2 | fault -> 1 | read w1;p64,64,61 -> FAULT@4 | fault -> 2",
                "read w1;p63,64,61 -> FAULT@7 | fault -> 2 | read w1;p63,63,61 -> FAULT@10 | fault -> 2 | read w1;p63;64 -> FAULT@6 | fault -> 1",
                "read w1;x64 -> FAULT@3 | fault -> 1 | read w1;p0,0,0;p70,x -> FAULT@11 | fault -> 2");
        edges.holds("of one TOKEN the least: 1 it cannot stand there, or is none",
                "read w1;99 -> FAULT@3 | fault -> 1 | read 99 -> FAULT@0 | fault -> 1 | read w1;p1,2,3;64 -> FAULT@10 | fault -> 1",
                "read " + SIX + "w -> FAULT@45 | fault -> 1 | read " + SIX + "x0,0,0; -> FAULT@45 | fault -> 1 | read " + SIX + "; -> FAULT@45 | fault -> 1",
                "read " + SIX + "99 -> FAULT@45 | fault -> 1 | read w1;P -> FAULT@3 | fault -> 1");
        edges.holds("(a run of three figures, at its first;",
                "read w999 -> FAULT@1 | fault -> 1 | read w001; -> FAULT@1 | fault -> 1 | read w12345; -> FAULT@1 | fault -> 1 | read 123 -> FAULT@0 | fault -> 1",
                "read w1;p641,0,0; -> FAULT@4 | fault -> 1 | read w1;p1,2,123; -> FAULT@8 | fault -> 1 | read w1;123 -> FAULT@3 | fault -> 1",
                "read w64; -> FAULT@1 | fault -> 2 | read w640; -> FAULT@1 | fault -> 1");
        edges.holds("the end: how many bytes there are);",
                "town -> FAULT@0 | fault -> 1 | read w -> FAULT@1 | fault -> 1 | read w1 -> FAULT@2 | fault -> 1 | read w12 -> FAULT@3 | fault -> 1",
                "read w1;p -> FAULT@4 | fault -> 1 | read w1;p1 -> FAULT@5 | fault -> 1 | read w1;p1, -> FAULT@6 | fault -> 1 | read w1;p1,2 -> FAULT@7 | fault -> 1",
                "read w1;p1,2, -> FAULT@8 | fault -> 1 | read w1;p1,2,3 -> FAULT@9 | fault -> 1 | read w1;p1,2,3;v -> FAULT@11 | fault -> 1",
                "read w1; -> 0 | read w1;p1,2,3; -> 1");
        edges.holds("2 a NUMBER that is not as told;",
                "read w36; -> 0 | read w37; -> FAULT@1 | fault -> 2 | read w37 -> FAULT@1 | fault -> 2",
                "read w0;k63,63,60; -> 1 | read w0;k64,63,60; -> FAULT@4 | fault -> 2 | read w0;k63,64,60; -> FAULT@7 | fault -> 2 | read w0;k63,63,61; -> FAULT@10 | fault -> 2");
        edges.holds("3 a reader more than there is room for (its letter).",
                "read " + SIX + " -> 6 | fault -> 0 | read " + SIX + "p0,0,1; -> FAULT@45 | fault -> 3 | read " + SIX + "k -> FAULT@45 | fault -> 3",
                "read " + SIX + "v64,x -> FAULT@45 | fault -> 3 | read w1;" + "p10,10,10;".repeat(6) + "s -> FAULT@63 | fault -> 3",
                "read w1;" + "p0,0,1;".repeat(5) + "p0,0,61;p -> FAULT@43 | fault -> 2");
    }
}

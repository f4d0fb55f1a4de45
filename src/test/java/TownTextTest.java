/** Promises 6 to 8: feed, town, fault. */
public final class TownTextTest {
    public static void main(String[] args) {
        Script script = new Script();
        feed(script);
        town(script);
        faults(script);
        tooManyReaders(script);
        script.close("TownTextTest");
    }

    private static void feed(Script script) {
        StringBuilder full = new StringBuilder("feed -1 -> BAD | feed 256 -> BAD | feed MIN -> BAD | feed MAX -> BAD\n");
        for (int i = 1; i <= 120; i++) {
            full.append("feed ").append(i == 1 ? 0 : i == 2 ? 255 : 119).append(" -> ").append(i).append('\n');
        }
        full.append("feed 119 -> FULL | feed -1 -> BAD | feed 256 -> BAD | count 7 -> 120\n");
        full.append("town -> FAULT@0 | count 7 -> 0 | feed 119 -> 1 | count 7 -> 1\n");
        script.run("promise 6", full.toString());
    }

    private static void town(Script script) {
        script.run("promise 7", """
                read w9;p1,7,5;v2,63,60;s4,61,9;c8,3,3;k16,9,1;p32,5,0; -> 6
                count 1 -> 6 | count 2 -> 5 | count 3 -> 0 | count 4 -> 9 | count 5 -> 0 | count 7 -> 0
                kind 0 -> 1 | kind 1 -> 2 | kind 2 -> 3 | kind 3 -> 4 | kind 4 -> 5 | kind 5 -> 1
                reader 0 0 -> 1 | reader 0 1 -> 7 | reader 0 2 -> 5
                reader 1 0 -> 2 | reader 1 1 -> 63 | reader 1 2 -> 60
                reader 4 0 -> 16 | reader 4 1 -> 9 | reader 4 2 -> 1
                reader 5 0 -> 32 | reader 5 1 -> 5 | reader 5 2 -> 0
                """);
        script.run("promise 7: the least and the most", """
                read w0; -> 0 | count 1 -> 0 | count 4 -> 0 | days 1 -> 0 | count 3 -> 1
                read w36;p63,63,60; -> 1 | count 4 -> 36 | reader 0 0 -> 63 | reader 0 1 -> 63 | reader 0 2 -> 60
                read w00;k00,01,09; -> 1 | count 4 -> 0 | reader 0 0 -> 0 | reader 0 1 -> 1 | reader 0 2 -> 9
                """);
        script.run("promise 7: in place of the one before", """
                read w9;p1,7,5;v2,63,60; -> 2 | days 3 -> 3 | write 0 1 -> 7 | count 6 -> 4 | count 3 -> 3
                read w5;c0,0,1; -> 1 | count 1 -> 1 | count 3 -> 0 | count 4 -> 5 | count 6 -> 0
                undo -> STATE | reader 1 0 -> BAD | kind 0 -> 4
                """);
        script.run("promise 7: by a FAULT all stays, but the tape is empty", """
                read w9;p1,7,5;v2,63,60; -> 2 | days 1 -> 3
                read w5;c0,0,1;x -> FAULT@10 | count 7 -> 0
                count 1 -> 2 | count 3 -> 1 | count 4 -> 9 | count 6 -> 1 | reader 0 0 -> 3 | kind 0 -> 1
                read c -> FAULT@0 | count 1 -> 2
                undo -> 0 | reader 0 0 -> 1
                """);
    }

    private static void faults(Script script) {
        script.run("promise 8: the latest", """
                fault -> 0 | read w1; -> 0 | fault -> 0
                read w37; -> FAULT@1 | fault -> 2 | read w1; -> 0 | fault -> 2
                read x -> FAULT@0 | fault -> 1
                """);
        String misplaced = "q , ; 1 W w w, w; w1, w1;, w1;; w1;1 w1;w w1;x w1;P w1;pp w1;p, w1;p; "
                + "w1;p1p w1;p1; w1;p1,, w1;p1,p w1;p1,2; w1;p1,2,, w1;p1,2,; w1;p1,2,3, w1;p1,2,3;; w1;p1,2,3;4 "
                + "w1;p1,2,3;w";
        for (String text : misplaced.split(" ")) {
            int place = text.equals("w") ? 1 : text.length() - 1;
            expect(script, text, place, 1);
        }
        String cutShort = "w w1 w1;p w1;p1 w1;p1, w1;p1,2 w1;p1,2, w1;p1,2,3 w1;p1,2,3;v";
        for (String text : cutShort.split(" ")) {
            expect(script, text, text.length(), 1);
        }
        expect(script, "", 0, 1);
        expect(script, "w100;", 1, 1);
        expect(script, "w001;", 1, 1);
        expect(script, "w0000;", 1, 1);
        expect(script, "w999", 1, 1);
        expect(script, "w1;p000,0,0;", 4, 1);
        expect(script, "w1;p0,0,0;123", 10, 1);
        expect(script, "w37;", 1, 2);
        expect(script, "w37", 1, 2);
        expect(script, "w99x", 1, 2);
        expect(script, "w1;p64,0,0;", 4, 2);
        expect(script, "w1;v63,64,0;", 7, 2);
        expect(script, "w1;s63,63,61;", 10, 2);
        expect(script, "w1;p99,99,99;", 4, 2);
        expect(script, "w1;p0,0,60;k0,0,61;", 16, 2);
        for (int letter : new int[] {32, 0, 10, 128, 255, 'W', '/', ':', '`', '{'}) {
            script.run("promise 7: no TOKEN", "feed 119 -> 1 | feed " + letter + " -> 2 | town -> FAULT@1 | fault -> 1");
        }
    }

    private static void tooManyReaders(Script script) {
        String six = "w1;" + "p0,0,1;".repeat(6);
        script.run("promise 7: room for six", "read " + six + " -> 6 | count 1 -> 6 | count 2 -> 6");
        expect(script, six + "p0,0,0;", 45, 3);
        expect(script, six + "k", 45, 3);
        expect(script, six + "v64x", 45, 3);
        expect(script, six + "w", 45, 1);
        expect(script, six + "x", 45, 1);
        expect(script, six + "1", 45, 1);
        expect(script, "w1;" + "p0,0,1;".repeat(5) + "p0,0,61;p", 43, 2);
    }

    private static void expect(Script script, String text, int place, int fault) {
        script.run("promises 7, 8: \"" + text + "\"",
                "read w3;p1,1,1; -> 1 | read " + text + " -> FAULT@" + place + " | fault -> " + fault
                + " | count 7 -> 0 | count 1 -> 1 | count 4 -> 3 | kind 0 -> 1 | reader 0 1 -> 1");
    }
}

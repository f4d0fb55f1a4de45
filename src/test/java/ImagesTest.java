/** Promises 26 and 27: image, restore. */
public final class ImagesTest {
    private static final String TOWN = "read w9;p1,7,5;v0,63,2;k0,9,60; -> 3\n";

    public static void main(String[] args) {
        Script script = new Script();
        image(script);
        restore(script);
        script.close("ImagesTest");
    }

    private static void image(Script script) {
        script.run("promise 26: refused", """
                image 0 -> STATE | image 1 -> STATE | image 2 -> BAD | image -1 -> BAD
                read w0; -> 0 | image 2 -> BAD | image -1 -> BAD | image 0 -> 1 | image 1 -> 1 | restore 1 -> 1
                """);
        script.run("promise 26: the latest is kept, each by itself", TOWN + """
                image 0 -> 1 | days 1 -> 7 | image 1 -> 1 | days 1 -> 5 | image 0 -> 1 | days 1 -> 5
                restore 1 -> 1 | count 3 -> 1 | reader 0 0 -> 3 | restore 0 -> 1 | count 3 -> 2 | reader 0 0 -> 7
                """);
        script.run("promise 26: nothing else changes", TOWN + """
                days 2 -> 5 | image 0 -> 1 | count 6 -> 2 | count 3 -> 2 | undo -> 1 | image 0 -> 1 | undo -> 0
                """);
    }

    private static void restore(Script script) {
        script.run("promise 27: refused", TOWN + """
                restore 0 -> STATE | restore 1 -> STATE | restore 2 -> BAD | restore -1 -> BAD
                image 1 -> 1 | restore 0 -> STATE | restore 1 -> 1
                """);
        script.run("promise 27: the TOWN is as it was", TOWN + """
                days 1 -> 7 | image 0 -> 1 | write 0 0 -> 7 | spare 1 9 -> 10 | deny 2 1 -> 0 | days 3 -> 7
                restore 0 -> 1 | count 3 -> 1 | count 6 -> 0 | undo -> STATE
                reader 0 0 -> 3 | reader 0 1 -> 7 | reader 0 2 -> 4 | reader 1 0 -> 3 | reader 1 2 -> 1 | reader 2 0 -> 2 | reader 2 2 -> 59
                days 1 -> 5 | undo -> 0 | count 3 -> 1 | restore 0 -> 1 | count 6 -> 0
                """);
        script.run("promise 27: behind another TOWN", TOWN + """
                image 0 -> 1 | read w5;c4,3,3;s2,61,9; -> 2 | image 1 -> 1
                restore 0 -> 1 | count 1 -> 3 | count 4 -> 9 | kind 0 -> 1 | kind 1 -> 2 | kind 2 -> 5 | reader 2 1 -> 9
                restore 1 -> 1 | count 1 -> 2 | count 4 -> 5 | kind 0 -> 4 | kind 1 -> 3 | reader 2 0 -> BAD
                """);
        script.run("promise 27: an IMAGE does not live on", TOWN + """
                image 0 -> 1 | restore 0 -> 1 | days 2 -> 5 | write 0 1 -> 7 | restore 0 -> 1 | reader 0 0 -> 1 | reader 0 1 -> 7 | count 3 -> 0
                """);
        script.run("promise 27: ROWS, tape and TRACE are no part of it", TOWN + """
                row 0 0 4 -> 4 | image 0 -> 1 | row 1 0 4 -> 4 | drop 0 -> 4 | feed 1 -> 1 | ask 0 1 -> 1
                restore 0 -> 1 | count 0 -> 1 | drop 1 -> 4 | count 7 -> 1 | trace 0 -> 21
                """);
    }
}

/** Promises 15 to 25: deeds, lines, dead, ends, first, toWrite, toDeny, print, temper, told, odds. */
public final class ForetoldTest {
    private static final String TOWN = "read w9;p1,7,5;v0,63,2;s2,61,9;c4,3,3;k0,9,60;p5,5,0; -> 6\n";

    public static void main(String[] args) {
        Script script = new Script();
        deeds(script);
        lines(script);
        dead(script);
        ends(script);
        first(script);
        toWrite(script);
        toDeny(script);
        print(script);
        temper(script);
        told(script);
        tellersAreRefused(script);
        odds(script);
        script.close("ForetoldTest");
    }

    private static void deeds(Script script) {
        script.run("promise 15", TOWN + """
                deeds 0 0 -> 1 | deeds 0 1 -> 3 | deeds 0 2 -> 7 | deeds 0 60 -> 7
                deeds 1 1 -> 3 | deeds 1 2 -> 15 | deeds 1 3 -> 15 | deeds 1 60 -> 15
                deeds 2 60 -> 2 | deeds 3 2 -> 28 | deeds 3 60 -> 60
                deeds 4 1 -> 2 | deeds 4 2 -> 2 | deeds 4 3 -> 6 | deeds 4 5 -> 22 | deeds 4 6 -> 22 | deeds 4 7 -> 54
                deeds 5 60 -> 5
                deeds 0 -1 -> BAD | deeds 0 61 -> BAD | deeds 6 0 -> BAD | deeds -1 0 -> BAD | deeds 0 MIN -> BAD
                count 3 -> 0 | reader 0 0 -> 1 | count 6 -> 0
                days 1 -> 31 | deeds 4 0 -> 2 | deeds 4 1 -> 2 | deeds 4 2 -> 6 | deeds 4 60 -> 54
                """);
        script.run("promise 15: a calm one needs 12 DAYS, from an odd DAY too", """
                read w0;k0,0,60; -> 1 | deeds 0 10 -> 31 | deeds 0 11 -> 63 | days 1 -> 1 | deny 0 0 -> 0
                deeds 0 11 -> 31 | deeds 0 12 -> 63 | deeds 0 60 -> 63
                """);
        script.run("promise 15: no TOWN", "deeds 0 0 -> BAD");
    }

    private static void lines(Script script) {
        script.run("promise 16", TOWN + """
                lines 0 0 -> 2 | lines 0 1 -> 1 | lines 0 2 -> 0 | lines 0 60 -> 0
                lines 1 1 -> 4 | lines 1 60 -> 2 | lines 3 0 -> 3 | lines 3 1 -> 4 | lines 3 60 -> 6 | lines 4 2 -> 3 | lines 4 60 -> 6
                lines 5 0 -> 0 | lines 5 60 -> 0
                lines 0 -1 -> BAD | lines 0 61 -> BAD | lines 6 0 -> BAD | lines -1 0 -> BAD
                """);
        script.run("promise 16: no TOWN", "lines 0 0 -> BAD");
    }

    private static void dead(Script script) {
        script.run("promise 17", TOWN + """
                dead 0 -> 32 | dead 1 -> 32 | dead 2 -> 34 | dead 3 -> 42 | dead 4 -> 42 | dead 5 -> 43 | dead 9 -> 47
                dead 59 -> 47 | dead 60 -> 63 | dead -1 -> BAD | dead 61 -> BAD | count 2 -> 5
                days 2 -> 29 | dead 0 -> 34 | dead 1 -> 42 | dead 57 -> 47 | dead 58 -> 63
                """);
        script.run("promise 17: STATE is ahead of BAD", "dead 0 -> STATE | dead 61 -> STATE | read w0; -> 0 | dead 60 -> 0");
    }

    private static void ends(Script script) {
        script.run("promise 18", TOWN + """
                ends 0 -> 0 | ends 1 -> 2 | ends 2 -> 6 | ends 3 -> 6 | ends 4 -> 6 | ends 5 -> 0
                ends 6 -> BAD | ends -1 -> BAD
                spare 1 1 -> 3 | ends 1 -> 0 | deny 5 0 -> 4 | ends 5 -> 1
                """);
        script.run("promise 18: when it dies, not behind 60 DAYS", "read w0;p0,63,1;k0,0,2; -> 2 | ends 0 -> 5 | ends 1 -> 1");
        script.run("promise 18: no TOWN", "ends 0 -> BAD");
    }

    private static void first(Script script) {
        script.run("promise 19", TOWN + """
                first 0 -> 1 | first 1 -> 2 | first 2 -> BAD | first -1 -> BAD
                spare 1 1 -> 3 | first 0 -> 3 | first 1 -> 3
                days 3 -> 21 | first 0 -> 2 | first 1 -> 6
                """);
        script.run("promise 19: of several the least", "read w0;p0,7,9;c0,1,4;k0,1,4;c0,1,3;k0,1,3; -> 5 | first 0 -> 3 | first 1 -> 3");
        script.run("promise 19: a dead one is not asked", "read w0;p0,1,0;p0,1,1;c0,0,60; -> 3 | first 0 -> 2 | first 1 -> 60");
        script.run("promise 19: one FALSE LINE is enough", "read w0;p2,1,7;p2,3,1; -> 2 | first 0 -> 0 | first 1 -> 7");
        script.run("promise 19: none", "read w0;p0,1,0;p0,1,1; -> 2 | first 0 -> NONE | first 1 -> NONE | first 2 -> BAD");
        script.run("promise 19: STATE is ahead of BAD", "first 0 -> STATE | first 2 -> STATE");
    }

    private static void toWrite(Script script) {
        script.run("promise 20: a proud one", """
                read w0;p0,0,2;p1,0,2; -> 2
                toWrite 0 7 0 -> NONE | toWrite 0 7 1 -> NONE | toWrite 0 3 0 -> 0 | toWrite 0 3 1 -> 3
                toWrite 0 0 0 -> 0 | toWrite 0 0 1 -> 0 | toWrite 0 40 0 -> 0 | toWrite 0 40 1 -> 40
                toWrite 1 0 0 -> 0 | toWrite 1 0 1 -> 1 | toWrite 1 7 0 -> 0 | toWrite 1 7 1 -> 7 | toWrite 1 15 0 -> NONE
                count 6 -> 0 | reader 0 1 -> 0
                """);
        script.run("promise 20: others", """
                read w0;v0,0,1;s0,0,9;c0,0,1;k0,0,1;c0,0,2; -> 5
                toWrite 0 48 1 -> 48 | toWrite 0 7 1 -> NONE | toWrite 1 48 1 -> 48 | toWrite 1 7 1 -> NONE
                toWrite 2 4 0 -> 3 | toWrite 2 4 1 -> 3 | toWrite 2 0 0 -> 1 | toWrite 2 0 1 -> 0 | toWrite 2 5 0 -> NONE
                toWrite 3 4 0 -> 3 | toWrite 3 4 1 -> 3 | toWrite 4 0 0 -> 2 | toWrite 4 0 1 -> 0
                days 1 -> 18 | toWrite 1 0 0 -> 0 | toWrite 4 1 0 -> 1 | toWrite 4 1 1 -> 1
                """);
        script.run("promise 20: an odd DAY is the last of a calm one", """
                read w0;k0,0,2; -> 1 | days 1 -> 1 | toWrite 0 1 0 -> 0 | toWrite 0 1 1 -> 1 | toWrite 0 2 0 -> NONE | toWrite 0 2 1 -> NONE
                """);
        script.run("promise 20: many FALSE LINES, and the highest NOTICE", """
                read w0;c0,0,60;k1,0,60;p0,0,60;v0,0,3; -> 4
                toWrite 0 63 0 -> 6 | toWrite 0 63 1 -> 0 | toWrite 1 63 0 -> 5 | toWrite 1 63 1 -> 1
                toWrite 2 63 0 -> 0 | toWrite 2 63 1 -> 63 | toWrite 3 63 0 -> 0 | toWrite 3 63 1 -> 63
                """);
        script.run("promise 20: refused", TOWN + """
                toWrite 5 0 0 -> STATE | toWrite 5 0 1 -> STATE | toWrite 5 64 0 -> BAD | toWrite 5 0 2 -> BAD
                toWrite 6 0 0 -> BAD | toWrite -1 0 0 -> BAD | toWrite 0 64 0 -> BAD | toWrite 0 -1 0 -> BAD
                toWrite 0 0 2 -> BAD | toWrite 0 0 -1 -> BAD
                """);
        script.run("promise 20: no TOWN", "toWrite 0 0 0 -> BAD");
    }

    private static void toDeny(Script script) {
        script.run("promise 21", """
                read w0;p3,1,5;p2,3,0;p7,1,0;c0,1,3;k63,63,9;v56,7,2; -> 6
                toDeny 0 0 -> 1 | toDeny 0 1 -> 2 | toDeny 1 0 -> NONE | toDeny 1 1 -> NONE
                toDeny 2 0 -> 2 | toDeny 2 1 -> 6 | toDeny 3 0 -> NONE | toDeny 3 1 -> NONE
                toDeny 4 0 -> 0 | toDeny 4 1 -> 0 | toDeny 5 0 -> 3 | toDeny 5 1 -> 56
                toDeny 0 2 -> BAD | toDeny 0 -1 -> BAD | toDeny 6 0 -> BAD | toDeny -1 0 -> BAD
                reader 0 0 -> 3 | count 6 -> 0
                """);
        script.run("promise 21: what a cross one denies it does anew, as long as it lives", """
                read w0;c3,1,1;c3,1,0;k3,1,2; -> 3 | toDeny 0 0 -> NONE | toDeny 1 1 -> 2 | toDeny 2 0 -> NONE
                days 1 -> 4 | toDeny 0 0 -> 2 | toDeny 0 1 -> 6 | toDeny 2 0 -> 2 | toDeny 2 1 -> 6
                """);
        script.run("promise 21: all that it did", """
                read w0;p63,0,0;v63,0,60;s31,0,9; -> 3 | toDeny 0 0 -> 6 | toDeny 0 1 -> 63
                toDeny 1 0 -> 6 | toDeny 1 1 -> 63 | toDeny 2 0 -> 5 | toDeny 2 1 -> 31
                """);
        script.run("promise 21: no TOWN", "toDeny 0 0 -> BAD");
    }

    private static void print(Script script) {
        script.run("promise 22", TOWN + """
                print 0 -> 3 | print 1 -> 33 | print 2 -> BAD | print -1 -> BAD
                days 2 -> 29 | print 0 -> 7 | print 1 -> 3
                """);
        script.run("promise 22: as many LINES as there are", """
                read w4;p3,3,0;p3,3,0;p3,3,0; -> 3 | print 0 -> 4 | print 1 -> 3
                read w3;p3,3,0;p3,3,0;p3,3,0; -> 3 | print 0 -> 2 | print 1 -> 1
                read w1;p3,3,0;p3,3,0;p3,3,0; -> 3 | print 0 -> 0 | print 1 -> 0
                read w0;p63,0,0; -> 1 | print 0 -> 0 | print 1 -> 0
                read w36;p63,63,0;v63,63,0;s63,63,1;c63,63,1;k63,63,1;p63,63,1; -> 6 | print 0 -> 36 | print 1 -> 63
                read w35;p63,63,0;v63,63,0;s63,63,1;c63,63,1;k63,63,1;p63,63,1; -> 6 | print 0 -> 30 | print 1 -> 31
                """);
        script.run("promise 22: fewest readers, then the least bits", """
                read w2;p1,1,0;p1,1,0;p3,3,0; -> 3 | print 0 -> 2 | print 1 -> 4
                read w2;p0,0,0;p3,3,9;p3,3,0; -> 3 | print 0 -> 2 | print 1 -> 2
                read w9;p4,3,9; -> 1 | print 0 -> 0 | print 1 -> 0
                """);
        script.run("promise 22: DEEDS that are told and done, one for each reader", "read w9;p1,1,1;p1,1,1;p2,1,1; -> 3 | print 0 -> 2 | print 1 -> 3");
        script.run("promise 22: STATE is ahead of BAD", "print 0 -> STATE | print 2 -> STATE");
    }

    private static void temper(Script script) {
        String row = "row 0 0 16 -> 16 | set 0 0 3 -> 3 | set 0 1 7 -> 7 | set 0 2 7 -> 7\n";
        script.run("promise 23", TOWN + row + """
                temper 0 0 0 1 -> 10 | temper 0 0 0 2 -> 10 | temper 0 0 0 3 -> 10 | temper 0 0 0 4 -> 0
                temper 1 0 0 1 -> 4 | temper 1 0 0 2 -> 0 | temper 2 0 0 1 -> 2 | temper 0 0 1 1 -> 4 | temper 3 0 0 1 -> 0
                set 0 4 12 -> 12 | temper 3 0 4 1 -> 48 | set 0 5 28 -> 28 | temper 3 0 4 2 -> 16
                set 0 5 12 -> 12 | temper 3 0 4 2 -> 32 | set 0 6 5 -> 5 | temper 5 0 6 1 -> 62
                """);
        script.run("promise 23: calm ones by the DAY", """
                read w0;p0,0,9; -> 1 | row 1 1 2 -> 2 | days 1 -> 1 | temper 0 1 0 1 -> 46 | set 1 1 1 -> 1
                temper 0 1 0 2 -> 32 | temper 0 1 1 1 -> 16
                """);
        script.run("promise 23: behind its death nothing more is done", """
                read w0;p0,63,2; -> 1 | row 2 2 16 -> 16
                set 2 0 1 -> 1 | set 2 1 3 -> 3 | set 2 2 3 -> 3 | temper 0 2 0 3 -> 2 | set 2 2 7 -> 7 | temper 0 2 0 3 -> 0
                """);
        script.run("promise 23: ITEMS that are no sets of DEEDS", """
                read w0;p0,0,0; -> 1 | row 0 2 1 -> 1 | temper 0 0 0 1 -> 62 | set 0 0 64 -> 64 | temper 0 0 0 1 -> 0
                set 0 0 -1 -> -1 | temper 0 0 0 1 -> 0 | set 0 0 MIN -> MIN | temper 0 0 0 1 -> 0
                """);
    }

    private static void told(Script script) {
        script.run("promise 24", TOWN + """
                row 0 0 4 -> 4 | set 0 0 3 -> 3 | set 0 1 7 -> 7 | set 0 2 7 -> 7 | set 0 3 7 -> 7
                told 0 0 0 1 0 -> 32 | told 0 0 0 1 1 -> 2 | told 0 0 0 2 0 -> 16 | told 0 0 0 2 1 -> 6
                told 0 0 0 3 0 -> 2 | told 0 0 0 3 1 -> 6 | told 0 0 1 3 0 -> 0 | told 0 0 1 3 1 -> NONE
                told 1 0 0 1 0 -> 16 | told 1 0 0 1 1 -> 3 | told 2 0 0 1 0 -> 10 | told 2 0 0 1 1 -> 1
                told 3 0 0 1 0 -> 0 | told 3 0 0 1 1 -> NONE
                """);
        script.run("promise 24: of a dead one any", """
                read w0;p5,9,0; -> 1 | row 0 0 16 -> 16 | told 0 0 0 1 0 -> 0 | set 0 0 5 -> 5 | told 0 0 0 1 0 -> 64 | told 0 0 0 1 1 -> 0
                """);
        script.run("promise 24: a cross one", """
                read w0;c0,0,3;k0,0,3; -> 2 | row 0 0 3 -> 3 | set 0 0 2 -> 2 | set 0 1 10 -> 10 | set 0 2 10 -> 10
                told 0 0 0 1 0 -> 16 | told 0 0 0 1 1 -> 1 | told 0 0 0 2 0 -> 4 | told 0 0 0 2 1 -> 5
                told 0 0 0 3 0 -> 1 | told 0 0 0 3 1 -> 53 | told 1 0 0 2 0 -> 0
                set 0 1 2 -> 2 | told 1 0 0 3 0 -> 4 | told 1 0 0 3 1 -> 5
                """);
    }

    private static void tellersAreRefused(Script script) {
        script.run("promises 23, 24: refused", TOWN + """
                row 0 0 12 -> 12 | row 1 1 40 -> 40 | row 3 2 0 -> 0
                temper 6 0 0 1 -> BAD | temper -1 0 0 1 -> BAD | temper 0 8 0 1 -> BAD | temper 0 -1 0 1 -> BAD
                temper 0 0 0 0 -> BAD | temper 0 0 0 17 -> BAD | temper 0 1 0 17 -> BAD | temper 0 2 0 17 -> BAD | temper 0 1 0 16 -> 0
                temper 0 2 0 1 -> NULL | temper 0 2 -1 1 -> NULL | temper 0 0 -1 1 -> PLACE | temper 0 0 12 1 -> PLACE
                temper 0 0 10 3 -> PLACE | temper 0 0 9 3 -> 0 | temper 0 0 MAX 16 -> PLACE | temper 0 0 MIN 1 -> PLACE
                temper 0 0 0 13 -> PLACE | temper 0 3 0 1 -> PLACE | temper 0 1 24 16 -> 0 | temper 0 1 25 16 -> PLACE
                told 6 0 0 1 0 -> BAD | told -1 0 0 1 0 -> BAD | told 0 8 0 1 0 -> BAD | told 0 -1 0 1 0 -> BAD
                told 0 0 0 0 0 -> BAD | told 0 1 0 17 0 -> BAD | told 0 0 0 1 2 -> BAD | told 0 0 0 1 -1 -> BAD | told 0 2 0 1 2 -> BAD
                told 0 2 0 1 0 -> NULL | told 0 2 -1 1 0 -> NULL | told 0 0 -1 1 0 -> PLACE | told 0 0 12 1 0 -> PLACE
                told 0 0 0 13 1 -> PLACE | told 0 0 MAX 16 0 -> PLACE | told 0 1 24 16 0 -> 0 | told 0 1 24 16 1 -> NONE
                """);
        script.run("promises 23, 24: no TOWN", "row 0 0 1 -> 1 | temper 0 0 0 1 -> BAD | told 0 0 0 1 0 -> BAD | temper 0 1 0 1 -> BAD");
    }

    private static void odds(Script script) {
        script.run("promise 25: TRUE in the end", """
                read w0;p1,3,1; -> 1 | odds 1 3 0 -> 7 | odds 1 3 1 -> 10 | odds 1 5 0 -> 1 | odds 1 5 1 -> 2
                odds 1 0 0 -> 1 | odds 1 0 1 -> 1 | odds 1 10 0 -> 0 | odds 1 10 1 -> 1 | odds 0 3 0 -> 1 | odds 0 3 1 -> 1
                odds 2 3 0 -> 0 | odds 2 3 1 -> 1 | odds 6 0 0 -> 0 | odds 6 0 1 -> 1
                """);
        script.run("promise 25: TRUE now alone", """
                read w0;c1,1,1; -> 1 | odds 1 3 0 -> 3 | odds 1 3 1 -> 10 | odds 1 0 0 -> 0 | odds 1 0 1 -> 1 | odds 1 10 0 -> 1
                """);
        script.run("promise 25: several", """
                read w0;p1,3,1;p0,1,2; -> 2 | odds 1 5 0 -> 3 | odds 1 5 1 -> 4 | odds 2 5 0 -> 1 | odds 2 5 1 -> 4 | odds 2 4 0 -> 9 | odds 2 4 1 -> 25
                read w0;p0,1,1;v0,3,1;s0,1,1;p1,3,1;p3,7,9;v0,63,3; -> 6
                odds 6 1 0 -> 531441 | odds 6 1 1 -> 1000000 | odds 1 9 0 -> 468559 | odds 1 9 1 -> 1000000
                odds 5 5 0 -> 7 | odds 5 5 1 -> 64 | odds 0 5 0 -> 1 | odds 0 5 1 -> 1
                """);
        script.run("promise 25: dead ones are as they are", """
                read w0;p1,1,0;p0,1,0;p1,3,1;c1,1,1; -> 4
                odds 1 3 0 -> 1 | odds 1 3 1 -> 1 | odds 2 3 0 -> 79 | odds 2 3 1 -> 100 | odds 3 3 0 -> 21 | odds 3 3 1 -> 100
                odds 4 3 0 -> 0 | odds 4 3 1 -> 1
                """);
        script.run("promise 25: refused", TOWN + """
                odds -1 0 0 -> BAD | odds 7 0 0 -> BAD | odds 0 -1 0 -> BAD | odds 0 11 0 -> BAD | odds 0 0 2 -> BAD | odds 0 0 -1 -> BAD
                """);
        script.run("promise 25: STATE is ahead of BAD", """
                odds 0 0 0 -> STATE | odds 7 0 0 -> STATE | odds 0 11 0 -> STATE | odds 0 0 2 -> STATE
                read w0; -> 0 | odds 0 5 0 -> 1 | odds 0 5 1 -> 1 | odds 1 5 0 -> 0 | odds 1 5 1 -> 1
                """);
    }
}

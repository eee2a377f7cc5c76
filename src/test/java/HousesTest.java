/** Promises 40 to 53: tables, probes, weather, marks, minutes, air. */
public final class HousesTest {
    public static void main(String[] args) {
        lines();
        laying();
        readings();
        votes();
        offAndNear();
        partAtFirst();
        stuck();
        weatherAndMarks();
        vents();
        smallMoves();
        air();
        Script.end();
    }

    private static void lines() {
        Script.run("promises 40 and 42, lines and values", """
            line(0, 10, -5) = 1
            line(0, 13, 5) = 2
            line(0, 20, -1000000) = 3
            value(0, 10) = -5
            value(0, 9) = -5
            value(0, -2147483648) = -5
            value(0, 11) = -2
            value(0, 12) = 1
            value(0, 13) = 5
            # downwards: 5 less 1000005 by 7
            value(0, 14) = -142853
            value(0, 20) = -1000000
            value(0, 2147483647) = -1000000
            line(0, 20, 0) = BAD
            line(0, 19, 0) = BAD
            line(0, 1000001, 0) = BAD
            line(0, 21, 1000001) = BAD
            line(0, 21, -1000001) = BAD
            line(1, -1000001, 0) = BAD
            line(1, -1000000, -1000000) = 1
            line(1, 1000000, 1000000) = 2
            value(1, 7) = 7
            value(1, 999999) = 999999
            line(3, 0, 0) = BAD
            line(-1, 0, 0) = BAD
            line(0, 21, 0) = 4
            line(0, 22, 0) = 5
            line(0, 23, 0) = 6
            line(0, 24, 0) = 7
            line(0, 25, 7) = 8
            line(0, 26, 0) = FULL
            line(0, 25, 0) = BAD
            value(0, 99) = 7
            value(2, 5) = 0
            value(3, 5) = 0
            value(-1, 5) = 0
            """);
    }

    private static void laying() {
        Script.run("promises 41 to 43, tables that rest", """
            rest(0, 1) = 1
            rest(1, 2) = 1
            rest(0, 3) = BAD
            rest(0, -2) = BAD
            rest(3, 0) = BAD
            laid(0) = NONE
            value(0, 0) = 2
            laid(0) = 2
            laid(1) = 1
            laid(2) = 0
            laid(3) = NONE
            laid(-1) = NONE
            told(10) = 3
            value(1, 0) = 1
            value(2, 0) = 0
            rest(2, NONE) = NO
            rest(0, 3) = BAD
            line(2, 5, 50) = 1
            value(2, 0) = 50
            """);
        Script.run("promise 42, tables round about", """
            rest(0, 1) = 1
            rest(1, 2) = 1
            rest(2, 0) = 1
            value(1, 0) = 3
            value(0, 0) = 1
            value(2, 0) = 2
            laid(0) = 0
            laid(1) = 2
            laid(2) = 1
            """);
        Script.run("promise 42, a table on itself, and on one that was laid", """
            rest(0, 0) = 1
            value(0, 0) = 1
            rest(1, 0) = 1
            line(1, 0, 10) = 1
            value(1, 0) = 12
            rest(2, 1) = 1
            rest(2, NONE) = 1
            value(2, 0) = 0
            told(10) = 3
            laid(0) = 0
            laid(1) = 1
            """);
    }

    private static void readings() {
        Script.run("promises 44 to 46, read, part, probe", """
            read(9, 0) = BAD
            read(-1, 0) = BAD
            read(0, 0x7FF0000000000001) = 1
            part(dNaN) = BAD
            part(0xFFF0000000000001) = BAD
            part(d-1.0) = BAD
            part(0xFFF0000000000000) = BAD
            part(0x8000000000000001) = BAD
            part(d-0.0) = 1
            part(d0.0) = 1
            part(0x7FF0000000000000) = 1
            probe(9, 0) = BAD
            probe(-1, 0) = BAD
            probe(0, 5) = BAD
            probe(0, -1) = BAD
            probe(0, 4) = 0
            minute(1) = 1
            probe(0, 4) = 1
            probe(8, 4) = 1
            # another way to tell no number has the same bits
            read(0, 0xFFFFFFFFFFFFFFFF) = 1
            minute(2) = 3
            probe(0, 4) = 3
            read(0, d1.0) = 1
            probe(0, 4) = 3
            minute(1) = 4
            probe(0, 4) = 1
            probe(0, 2) = 0
            probe(0, 3) = 0
            """);
    }

    private static void votes() {
        Script.run("promise 47, the middle", """
            voted(3) = 0
            voted(-1) = 0
            read(0, d5.0) = 1
            read(3, d7.0) = 1
            voted(0) = dNaN
            minute(1) = 1
            # of even many the lesser one
            voted(0) = d5.0
            voted(1) = dNaN
            read(6, d6.0) = 1
            voted(0) = d5.0
            minute(1) = 2
            voted(0) = d6.0
            read(0, d0.0) = 1
            read(3, d-0.0) = 1
            read(6, dNaN) = 1
            minute(1) = 3
            voted(0) = d-0.0
            read(6, 0xFFF0000000000000) = 1
            minute(1) = 4
            voted(0) = d-0.0
            read(3, 0x7FF0000000000000) = 1
            read(0, 0x7FF0000000000000) = 1
            minute(1) = 5
            voted(0) = 0x7FF0000000000000
            read(0, dNaN) = 1
            read(3, dNaN) = 1
            read(6, dNaN) = 1
            minute(1) = 6
            voted(0) = dNaN
            # probes 1, 4, 7 are in house 1
            read(7, d3.5) = 1
            minute(1) = 7
            voted(1) = d3.5
            voted(2) = dNaN
            """);
    }

    private static void offAndNear() {
        Script.run("promise 46, off three times and near five times", """
            read(0, d20.0) = 1
            read(3, d20.5) = 1
            read(6, d22.6) = 1
            minute(2) = 2
            probe(6, 2) = 2
            probe(6, 3) = 0
            probe(0, 2) = 0
            probe(0, 3) = 2
            probe(6, 0) = 1
            minute(1) = 3
            probe(6, 0) = 0
            probe(6, 1) = 1
            probe(6, 2) = 0
            voted(0) = d20.5
            minute(1) = 4
            # of two that are in the lesser one; one that is out is looked at, too
            voted(0) = d20.0
            probe(6, 2) = 1
            read(6, d22.0) = 1
            minute(4) = 8
            probe(6, 3) = 4
            probe(6, 0) = 0
            minute(1) = 9
            probe(6, 0) = 1
            probe(6, 1) = 0
            probe(6, 3) = 0
            """);
        Script.run("promise 46, with fewer than three none is off", """
            read(0, d20.0) = 1
            read(3, d90.0) = 1
            minute(5) = 5
            probe(3, 0) = 1
            probe(3, 2) = 0
            probe(0, 3) = 0
            read(6, d20.0) = 1
            minute(2) = 7
            probe(3, 2) = 2
            # a minute without a reading breaks the row
            read(3, dNaN) = 1
            minute(1) = 8
            probe(3, 2) = 0
            probe(0, 3) = 0
            read(3, d90.0) = 1
            minute(2) = 10
            probe(3, 2) = 2
            probe(3, 0) = 1
            """);
        Script.run("promise 45, part", """
            part(d0.5) = 1
            read(0, d20.0) = 1
            read(3, d20.5) = 1
            read(6, d21.25) = 1
            minute(1) = 1
            probe(0, 3) = 1
            probe(6, 2) = 1
            part(0x7FF0000000000000) = 1
            minute(1) = 2
            probe(6, 2) = 0
            probe(6, 3) = 1
            # endless ones that are alike are near, others are off
            part(d1.0) = 1
            read(0, 0x7FF0000000000000) = 1
            read(3, 0x7FF0000000000000) = 1
            read(6, 0xFFF0000000000000) = 1
            minute(1) = 3
            voted(0) = 0x7FF0000000000000
            probe(0, 3) = 3
            probe(0, 2) = 0
            probe(6, 2) = 1
            """);
        Script.run("promise 46, all out: no value, and none comes back", """
            read(0, d0.0) = 1
            read(3, d50.0) = 1
            read(6, d100.0) = 1
            minute(3) = 3
            probe(0, 0) = 0
            probe(3, 0) = 1
            probe(6, 0) = 0
            read(3, dNaN) = 1
            minute(1) = 4
            voted(0) = dNaN
            """);
    }

    private static void partAtFirst() {
        Script.run("promise 45, part is 2.0 at first", """
            read(0, d20.0) = 1
            read(3, d20.0) = 1
            read(6, d22.0) = 1
            read(1, d20.0) = 1
            read(4, d20.0) = 1
            read(7, d17.9375) = 1
            minute(1) = 1
            probe(6, 2) = 0
            probe(6, 3) = 1
            probe(7, 2) = 1
            probe(7, 3) = 0
            """);
    }

    private static void stuck() {
        Script.run("promise 46, stuck", """
            read(0, d20.0) = 1
            read(3, d20.0) = 1
            minute(7) = 7
            probe(0, 4) = 7
            read(3, d20.25) = 1
            minute(1) = 8
            probe(0, 0) = 0
            probe(0, 1) = 2
            probe(0, 4) = 8
            probe(3, 0) = 1
            voted(0) = d20.0
            minute(1) = 9
            voted(0) = d20.25
            # one that is out and reads something else comes back by being near, with three that read
            read(6, d20.0) = 1
            read(0, d20.5) = 1
            minute(4) = 13
            probe(0, 0) = 0
            minute(1) = 14
            probe(0, 0) = 1
            """);
        Script.run("promise 46, all the same, and no number, are not stuck", """
            read(0, d20.0) = 1
            read(3, d20.0) = 1
            minute(20) = 20
            probe(0, 0) = 1
            probe(3, 0) = 1
            # probe 6 gets its first number in a minute behind: its bits change
            read(6, d21.0) = 1
            minute(1) = 21
            probe(0, 1) = 2
            probe(3, 1) = 2
            probe(6, 1) = 0
            probe(6, 0) = 1
            """);
        Script.run("promise 46, seven minutes are too few, and probes without number stay in", """
            read(0, d20.0) = 1
            minute(6) = 6
            read(3, d20.0) = 1
            minute(1) = 7
            probe(0, 0) = 1
            probe(0, 4) = 7
            probe(6, 4) = 7
            minute(1) = 8
            probe(0, 0) = 1
            read(3, d19.0) = 1
            minute(1) = 9
            probe(0, 1) = 2
            probe(6, 0) = 1
            probe(6, 4) = 9
            """);
        Script.run("promise 46, stuck where it was out already", """
            read(0, d20.0) = 1
            read(3, d20.0) = 1
            read(6, d90.0) = 1
            minute(3) = 3
            probe(6, 1) = 1
            minute(4) = 7
            read(3, d20.5) = 1
            minute(1) = 8
            probe(6, 1) = 2
            probe(6, 2) = 0
            probe(0, 1) = 2
            """);
    }

    private static void weatherAndMarks() {
        Script.run("promise 48, weather", """
            weather(0, 1000) = 0
            weather(0, 0) = 1000
            weather(1, -40000) = 10000
            weather(1, 60000) = -40000
            weather(2, 40000) = 5000
            weather(3, 1) = 0
            weather(4, 1) = 0
            weather(4, 0) = 1
            weather(0, 1001) = -100000
            weather(0, -1) = -100000
            weather(1, 60001) = -100000
            weather(1, -40001) = -100000
            weather(2, -1) = -100000
            weather(2, 40001) = -100000
            weather(3, 2) = -100000
            weather(4, -1) = -100000
            weather(5, 0) = -100000
            weather(-1, 0) = -100000
            weather(2, 0) = 40000
            """);
        Script.run("promises 49 to 51, marks and wishes", """
            wish(0, 0) = -100001
            mark(0, 600, 20000) = 1
            wish(0, 0) = 20000
            wish(0, 1439) = 20000
            mark(0, 600, 1) = BAD
            mark(0, 599, 1) = BAD
            mark(0, 1440, 1) = BAD
            mark(0, 700, 60001) = BAD
            mark(0, 700, -50001) = BAD
            mark(3, 700, 1) = BAD
            mark(-1, 700, 1) = BAD
            mark(1, -1, 1) = BAD
            mark(0, 603, 20010) = 2
            wish(0, 600) = 20000
            wish(0, 601) = 20003
            wish(0, 602) = 20006
            wish(0, 603) = 20010
            # down again round midnight: 10 in 1437 minutes
            wish(0, 604) = 20009
            wish(0, 1439) = 20004
            wish(0, 0) = 20004
            wish(0, 599) = 20000
            wish(0, 1440) = -100000
            wish(0, -1) = -100000
            wish(3, 0) = -100000
            mark(0, 700, -50000) = 3
            mark(0, 701, 60000) = 4
            mark(0, 702, 0) = 5
            mark(0, 1439, 0) = 6
            mark(0, 1439, 0) = BAD
            unmark(0) = 6
            unmark(0) = 0
            unmark(3) = BAD
            unmark(-1) = BAD
            wish(0, 700) = -100001
            mark(0, 0, 1) = 1
            mark(0, 1, 1) = 2
            mark(0, 2, 1) = 3
            mark(0, 3, 1) = 4
            mark(0, 4, 1) = 5
            mark(0, 5, 1) = 6
            mark(0, 6, 1) = FULL
            mark(0, 5, 1) = BAD
            """);
    }

    private static void vents() {
        Script.run("promise 52, minute", """
            minute(0) = BAD
            minute(101) = BAD
            minute(-1) = BAD
            minute(100) = 100
            minute(1) = 101
            told(0) = 101
            """);
        Script.run("promise 53, without a value or a wish, and in storm", """
            minute(1) = 1
            air(0, 3) = 10
            air(0, 4) = 10
            minute(1) = 2
            air(0, 3) = 10
            air(0, 4) = 20
            minute(3) = 5
            air(0, 4) = 30
            weather(3, 1) = 0
            minute(1) = 6
            air(0, 3) = 0
            air(0, 4) = 30
            # a wish alone is not enough
            weather(3, 0) = 1
            mark(0, 0, 0) = 1
            minute(1) = 7
            air(0, 3) = 10
            air(0, 5) = 0
            """);
        Script.run("promise 53, moves", """
            mark(0, 0, 10000) = 1
            read(0, d-90.5) = 1
            minute(1) = 1
            # d is -100000 at least: REST -6250, kept at -4000; MOVE -250 - 8, kept at -10
            air(0, 5) = -4000
            air(0, 3) = 0
            air(0, 4) = 10
            minute(9) = 10
            air(0, 4) = 100
            minute(1) = 11
            air(0, 4) = 100
            read(0, d12.0) = 1
            minute(1) = 12
            # 2000 by 16 is 125, 2000 by 400 is 5, -3875 by 500 is -7
            air(0, 5) = -3875
            air(0, 4) = 100
            air(0, 3) = 0
            read(0, 0x7FF0000000000000) = 1
            minute(1) = 13
            air(0, 5) = 2375
            air(0, 4) = 90
            minute(9) = 22
            air(0, 4) = 0
            air(0, 3) = 0
            air(0, 5) = 4000
            minute(10) = 32
            air(0, 3) = 100
            minute(1) = 33
            air(0, 3) = 100
            # what is left of a move goes to the other one
            read(0, d9.0) = 1
            minute(1) = 34
            # -1000: REST 3938, MOVE -2 and 7
            air(0, 5) = 3938
            air(0, 3) = 100
            """);
        Script.run("promise 53, what is left of a move", """
            mark(0, 0, 10000) = 1
            read(0, d11.3) = 1
            minute(1) = 1
            # 1300 by 16 is 81; 1300 by 400 is 3
            air(0, 5) = 81
            air(0, 3) = 3
            read(0, d7.0) = 1
            minute(1) = 2
            # -3000 by 16 is -187; MOVE is -7: 3 of the vent, 4 of the pipe
            air(0, 5) = -106
            air(0, 3) = 0
            air(0, 4) = 4
            read(0, d14.0) = 1
            minute(1) = 3
            # 4000: REST 144, MOVE 10: 4 of the pipe, 6 of the vent
            air(0, 4) = 0
            air(0, 3) = 6
            """);
        Script.run("promise 53, rain", """
            mark(0, 0, 0) = 1
            read(0, d50.0) = 1
            minute(4) = 4
            air(0, 3) = 40
            weather(4, 1) = 0
            minute(1) = 5
            air(0, 3) = 30
            minute(1) = 6
            air(0, 3) = 20
            minute(1) = 7
            air(0, 3) = 20
            weather(4, 0) = 1
            minute(1) = 8
            air(0, 3) = 30
            # with storm rain counts for nothing
            weather(4, 1) = 0
            weather(3, 1) = 0
            minute(1) = 9
            air(0, 3) = 20
            minute(3) = 12
            air(0, 3) = 0
            """);
    }

    private static void smallMoves() {
        Script.run("promise 53, rain at 21", """
            mark(0, 0, 10000) = 1
            read(0, d10.4) = 1
            minute(1) = 1
            air(0, 3) = 1
            read(0, d50.0) = 1
            minute(1) = 2
            air(0, 3) = 11
            weather(4, 1) = 0
            minute(1) = 3
            air(0, 3) = 20
            """);
        Script.run("promise 53, REST alone moves", """
            mark(0, 0, 10000) = 1
            read(0, 0x7FF0000000000000) = 1
            minute(1) = 1
            air(0, 5) = 4000
            air(0, 3) = 10
            read(0, d10.0) = 1
            minute(1) = 2
            air(0, 3) = 18
            air(0, 5) = 4000
            """);
        Script.run("promise 53, a value in thousandths is cut", """
            mark(0, 0, 0) = 1
            read(0, d15.9999) = 1
            minute(1) = 1
            air(0, 5) = 999
            read(0, d-15.9999) = 1
            minute(1) = 2
            air(0, 5) = 0
            """);
    }

    private static void air() {
        Script.run("promise 53, warmth and vapour", """
            air(3, 0) = 0
            air(-1, 0) = 0
            air(0, 11) = 0
            air(0, -1) = 0
            weather(0, 1000) = 0
            weather(1, -40000) = 10000
            weather(2, 40000) = 5000
            minute(1) = 1
            # vent 10, pipe 10: in 125 + 50; lost 60000 * 12 / 200
            air(0, 6) = 175
            air(0, 7) = 3600
            air(0, 0) = 16575
            # wet 12 + 20; gone -32000 * 10 / 80; 12032 comes down to 9000
            air(0, 8) = 32
            air(0, 9) = -4000
            air(0, 1) = 9000
            air(0, 2) = 3032
            air(0, 10) = 0
            told(10) = 0
            """);
        Script.run("promise 53, dew by table 0", """
            line(0, 19, 100) = 1
            line(0, 20, 7000) = 2
            minute(1) = 1
            # warmth 20000 + 50 - 10000 * 12 / 200 is 19450: 100 at 19
            air(0, 0) = 19450
            air(0, 1) = 100
            air(0, 2) = 7537
            told(10) = 1
            laid(0) = 0
            """);
        Script.run("promise 53, dew at the very thousand", """
            line(0, 19, 100) = 1
            line(0, 20, 7000) = 2
            weather(1, 20000) = 10000
            weather(3, 1) = 0
            minute(1) = 1
            air(0, 0) = 20000
            air(0, 1) = 7000
            air(0, 2) = 1012
            """);
        Script.run("promise 53, warmth below 0 is cut, not taken downwards", """
            line(0, -1, 5000) = 1
            line(0, 0, 6000) = 2
            weather(1, -40000) = 10000
            weather(3, 1) = 0
            # one part in a hundred of what it is above -40000, cut, is lost each minute
            minute(41) = 41
            air(0, 0) = -246
            air(0, 1) = 6000
            """);
        Script.run("promise 53, dew down to nothing", """
            line(0, 0, -500) = 1
            rest(0, 1) = 1
            minute(1) = 1
            air(0, 1) = 0
            air(0, 2) = 7637
            laid(0) = 1
            laid(1) = 0
            """);
        Script.run("promise 53, bound", """
            mark(0, 0, 0) = 1
            read(0, d50.0) = 1
            weather(2, 40000) = 5000
            minute(10) = 10
            air(0, 3) = 100
            air(0, 1) = 9000
            air(0, 10) = 0
            weather(2, 0) = 40000
            minute(1) = 11
            # 9000 times 100 by 80 is more than 9012
            air(0, 1) = 0
            air(0, 10) = 2238
            """);
        Script.run("promise 53, the wish is that of the new minute", """
            mark(0, 1, 0) = 1
            mark(0, 2, 16000) = 2
            read(0, d16.0) = 1
            minute(1) = 1
            air(0, 5) = 1000
            minute(1) = 2
            air(0, 5) = 1000
            """);
    }
}

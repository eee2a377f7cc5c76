/** The edges of the document's parts 4, 5 and 6: each run bears the sentence that names the edge. */
public final class HouseEdgesTest {
    public static void main(String[] args) {
        lines();
        values();
        laying();
        rests();
        readingsAndPart();
        middles();
        offAndNear();
        rows();
        goingOut();
        stuck();
        stuckBySome();
        noValue();
        weather();
        marks();
        wishes();
        minutes();
        storms();
        withoutValueOrWish();
        moves();
        smallMoves();
        limitsOfMoves();
        rain();
        warmth();
        vapour();
        dew();
        bound();
        Script.end();
    }

    private static void lines() {
        Script.run("x rising, y (-1000000 .. 1000000 both)", """
            line(-1, 0, 0) = BAD
            line(3, 0, 0) = BAD
            line(0, -1000001, 0) = BAD
            line(0, 1000001, 0) = BAD
            line(0, 0, -1000001) = BAD
            line(0, 0, 1000001) = BAD
            line(0, 2147483647, 0) = BAD
            line(0, 0, -2147483648) = BAD
            line(0, -1000000, 1000000) = 1
            line(0, -1000000, 0) = BAD
            line(0, -1000001, 0) = BAD
            line(0, -999999, -1000000) = 2
            line(0, -999999, 0) = BAD
            line(0, 1000000, 0) = 3
            line(0, 1000000, 0) = BAD
            line(2, 1000000, 5) = 1
            line(2, 1000000, 5) = BAD
            line(2, 999999, 5) = BAD
            value(0, -1000000) = 1000000
            value(0, -999999) = -1000000
            value(2, 0) = 5
            """);
        Script.run("LINES, 8 at most; BAD ahead of FULL", """
            line(0, 1, 0) = 1
            line(0, 2, 0) = 2
            line(0, 3, 0) = 3
            line(0, 4, 0) = 4
            line(0, 5, 0) = 5
            line(0, 6, 0) = 6
            line(0, 7, 0) = 7
            line(0, 8, 9) = 8
            line(0, 9, 100) = FULL
            line(0, 8, 100) = BAD
            line(0, 9, 1000001) = BAD
            line(0, 1000001, 0) = BAD
            line(3, 9, 0) = BAD
            value(0, 9) = 9
            value(0, 100) = 9
            line(1, 1, 0) = 1
            """);
        Script.run("a LINE may come when the TABLE is LAID already", """
            value(0, 5) = 0
            line(0, 0, 7) = 1
            value(0, 5) = 7
            """);
    }

    private static void values() {
        Script.run("between two: cut downwards", """
            line(0, 0, 0) = 1
            line(0, 3, -1) = 2
            line(0, 6, 1) = 3
            value(0, 0) = 0
            value(0, 1) = -1
            value(0, 2) = -1
            value(0, 3) = -1
            value(0, 4) = -1
            value(0, 5) = 0
            value(0, 6) = 1
            line(1, -3, -5) = 1
            line(1, 0, -4) = 2
            value(1, -2) = -5
            value(1, -1) = -5
            value(1, 0) = -4
            """);
        Script.run("before the first and behind the last that one's y, however far", """
            line(0, 10, 3) = 1
            value(0, 9) = 3
            value(0, 10) = 3
            value(0, 11) = 3
            value(0, -2147483648) = 3
            value(0, 2147483647) = 3
            line(0, 12, 9) = 2
            value(0, 9) = 3
            value(0, -2147483648) = 3
            value(0, 11) = 6
            value(0, 13) = 9
            value(0, 2147483647) = 9
            """);
        Script.run("what is worked between two does not wrap", """
            line(0, -1000000, -1000000) = 1
            line(0, 1000000, 1000000) = 2
            value(0, 999999) = 999999
            value(0, -999999) = -999999
            value(0, 1) = 1
            line(1, -1000000, 1000000) = 1
            line(1, 1000000, -1000000) = 2
            value(1, 999999) = -999999
            """);
        Script.run("value: BAD: 0 (TABLE); nothing is LAID by that", """
            value(-1, 0) = 0
            value(3, 0) = 0
            value(2147483647, 0) = 0
            told(10) = 0
            laid(0) = NONE
            told(2) = 0
            """);
    }

    private static void laying() {
        Script.run("without LINES OFFSET alone; OFFSET 0 of one that rests on none", """
            value(0, 2147483647) = 0
            rest(1, 0) = 1
            value(1, -2147483648) = 1
            rest(2, 1) = 1
            line(2, 0, -10) = 1
            value(2, 0) = -8
            """);
        Script.run("one that RESTS on itself has begun: 0, if that is not LAID yet", """
            rest(2, 2) = 1
            value(2, 0) = 1
            laid(0) = 2
            laid(1) = NONE
            told(10) = 1
            """);
        Script.run("two that REST on one another", """
            rest(0, 1) = 1
            rest(1, 0) = 1
            value(0, 0) = 2
            value(1, 0) = 1
            laid(0) = 1
            laid(1) = 0
            laid(2) = NONE
            told(10) = 2
            """);
        Script.run("three round about, from the middle one", """
            rest(0, 1) = 1
            rest(1, 2) = 1
            rest(2, 0) = 1
            value(2, 0) = 3
            laid(0) = 1
            laid(1) = 0
            laid(2) = 2
            value(1, 0) = 1
            value(0, 0) = 2
            """);
        Script.run("laid: the k-th (from 0); NONE", """
            laid(0) = NONE
            laid(-1) = NONE
            laid(2147483647) = NONE
            value(1, 0) = 0
            laid(0) = 1
            laid(1) = NONE
            laid(-1) = NONE
            value(1, 0) = 0
            laid(1) = NONE
            value(0, 0) = 0
            value(2, 0) = 0
            laid(1) = 0
            laid(2) = 2
            laid(3) = NONE
            told(10) = 3
            """);
        Script.run("at its first use it is LAID: rest() and line() are none", """
            rest(0, 1) = 1
            line(0, 1, 1) = 1
            told(10) = 0
            value(1, 0) = 0
            told(10) = 1
            laid(0) = 1
            value(0, 0) = 2
            laid(1) = 0
            """);
    }

    private static void rests() {
        Script.run("rest: another one, itself, or none (NONE): BAD", """
            rest(-1, 0) = BAD
            rest(3, 0) = BAD
            rest(0, -2) = BAD
            rest(0, 3) = BAD
            rest(0, 0) = 1
            rest(0, 2) = 1
            rest(0, NONE) = 1
            value(0, 0) = 0
            told(10) = 1
            """);
        Script.run("rest: NO: it is LAID; BAD ahead of NO", """
            rest(0, 1) = 1
            value(0, 0) = 1
            rest(0, 2) = NO
            rest(0, NONE) = NO
            rest(0, 0) = NO
            rest(1, NONE) = NO
            rest(0, 3) = BAD
            rest(0, -2) = BAD
            rest(2, 0) = 1
            value(0, 0) = 1
            value(2, 0) = 2
            """);
    }

    private static void readingsAndPart() {
        Script.run("PROBES 0 .. 8; READINGS by BITS", """
            read(-1, 0) = BAD
            read(9, 0) = BAD
            read(2147483647, 0) = BAD
            read(8, d1.0) = 1
            read(0, d2.0) = 1
            minute(1) = 1
            voted(2) = d1.0
            voted(0) = d2.0
            voted(1) = dNaN
            voted(-1) = 0
            voted(3) = 0
            probe(-1, 0) = BAD
            probe(9, 0) = BAD
            probe(0, -1) = BAD
            probe(0, 5) = BAD
            probe(8, 4) = 1
            """);
        Script.run("no number at first; 2 to 4 as of the latest minute; 0 before", """
            probe(0, 0) = 1
            probe(0, 1) = 0
            probe(0, 2) = 0
            probe(0, 3) = 0
            probe(0, 4) = 0
            voted(0) = dNaN
            read(0, d1.0) = 1
            probe(0, 4) = 0
            voted(0) = dNaN
            minute(1) = 1
            probe(0, 4) = 1
            probe(3, 4) = 1
            # also of no number, by whatever BITS it came
            read(3, 0xFFF0000000000001) = 1
            minute(1) = 2
            probe(3, 4) = 2
            probe(0, 4) = 2
            # 0.0 and -0.0 have other BITS
            read(0, d0.0) = 1
            minute(1) = 3
            probe(0, 4) = 1
            read(0, d-0.0) = 1
            minute(1) = 4
            probe(0, 4) = 1
            read(0, d5.0) = 1
            read(0, d-0.0) = 1
            minute(1) = 5
            probe(0, 4) = 2
            """);
        Script.run("part: BAD: no number, or below 0", """
            part(dNaN) = BAD
            part(0x7FF0000000000001) = BAD
            part(0xFFFFFFFFFFFFFFFF) = BAD
            part(0x8000000000000001) = BAD
            part(0xFFF0000000000000) = BAD
            part(d-1.0) = BAD
            part(d-0.0) = 1
            part(d0.0) = 1
            part(1) = 1
            part(0x7FEFFFFFFFFFFFFF) = 1
            part(0x7FF0000000000000) = 1
            """);
    }

    private static void middles() {
        Script.run("MIDDLE: in order (-0.0 below 0.0), of even many the lesser one", """
            read(0, d0.0) = 1
            read(3, d-0.0) = 1
            minute(1) = 1
            voted(0) = d-0.0
            read(6, d-0.0) = 1
            minute(1) = 2
            voted(0) = d-0.0
            read(6, d0.0) = 1
            minute(1) = 3
            voted(0) = d0.0
            read(6, d-1.0) = 1
            minute(1) = 4
            voted(0) = d-0.0
            read(3, dNaN) = 1
            minute(1) = 5
            voted(0) = d-1.0
            read(6, dNaN) = 1
            minute(1) = 6
            voted(0) = d0.0
            # none: no number
            read(0, dNaN) = 1
            minute(1) = 7
            voted(0) = dNaN
            """);
        Script.run("endless READINGS are numbers", """
            read(0, 0x7FF0000000000000) = 1
            minute(1) = 1
            voted(0) = 0x7FF0000000000000
            read(3, 0xFFF0000000000000) = 1
            minute(1) = 2
            voted(0) = 0xFFF0000000000000
            read(6, d3.0) = 1
            minute(1) = 3
            voted(0) = d3.0
            probe(0, 2) = 1
            probe(3, 2) = 1
            probe(6, 3) = 1
            """);
        Script.run("of those that are IN and READ", """
            read(0, d1.0) = 1
            read(3, d2.0) = 1
            read(6, d9.0) = 1
            minute(3) = 3
            probe(6, 0) = 0
            voted(0) = d2.0
            minute(1) = 4
            voted(0) = d1.0
            """);
    }

    private static void offAndNear() {
        Script.run("PART (a REAL): a tenth is the double, not the float", """
            part(d0.1) = 1
            read(0, d0.0) = 1
            read(3, d0.1) = 1
            read(6, d-0.1000000005) = 1
            minute(1) = 1
            probe(3, 2) = 0
            probe(3, 3) = 1
            probe(6, 2) = 1
            probe(6, 3) = 0
            """);
        Script.run("OFF, if its READING less THE VALUE, without sign, is above PART, else NEAR", """
            part(d0.25) = 1
            read(0, d20.25) = 1
            read(3, d20.0) = 1
            read(6, d19.75) = 1
            minute(1) = 1
            probe(0, 2) = 0
            probe(0, 3) = 1
            probe(3, 3) = 1
            probe(6, 2) = 0
            probe(6, 3) = 1
            # one BIT more is above
            read(0, 0x4034400000000001) = 1
            read(6, 0x4033BFFFFFFFFFFF) = 1
            minute(1) = 2
            probe(0, 2) = 1
            probe(0, 3) = 0
            probe(3, 2) = 0
            probe(3, 3) = 2
            probe(6, 2) = 1
            probe(6, 3) = 0
            read(6, d19.5) = 1
            minute(1) = 3
            probe(6, 2) = 2
            """);
        Script.run("(of two alike it is 0): PART 0, and endless ones", """
            part(d0.0) = 1
            read(0, d0.0) = 1
            read(3, d-0.0) = 1
            read(6, d0.0) = 1
            minute(1) = 1
            probe(0, 3) = 1
            probe(3, 3) = 1
            probe(6, 3) = 1
            read(0, 0xFFF0000000000000) = 1
            read(3, 0xFFF0000000000000) = 1
            read(6, 0x8000000000000001) = 1
            minute(1) = 2
            voted(0) = 0xFFF0000000000000
            probe(0, 3) = 2
            probe(3, 3) = 2
            probe(6, 2) = 1
            # PART endless: nothing is above it
            part(0x7FF0000000000000) = 1
            minute(1) = 3
            probe(6, 2) = 0
            probe(6, 3) = 1
            """);
        Script.run("With three or more that READ: of two none is OFF or NEAR", """
            read(0, d20.0) = 1
            read(3, d90.0) = 1
            minute(1) = 1
            probe(0, 2) = 0
            probe(0, 3) = 0
            probe(3, 2) = 0
            probe(3, 3) = 0
            read(6, d20.0) = 1
            minute(1) = 2
            probe(0, 3) = 1
            probe(3, 2) = 1
            read(6, dNaN) = 1
            minute(1) = 3
            probe(0, 3) = 0
            probe(3, 2) = 0
            probe(6, 3) = 0
            """);
    }

    private static void rows() {
        Script.run("Minutes OFF and NEAR in a row: one of the other kind, or of none, ends them", """
            read(0, d20.0) = 1
            read(3, d20.0) = 1
            read(6, d23.0) = 1
            minute(2) = 2
            probe(6, 2) = 2
            read(6, d21.0) = 1
            minute(1) = 3
            probe(6, 2) = 0
            probe(6, 3) = 1
            read(6, d23.0) = 1
            minute(2) = 5
            probe(6, 2) = 2
            probe(6, 3) = 0
            probe(6, 0) = 1
            read(6, dNaN) = 1
            minute(1) = 6
            probe(6, 2) = 0
            probe(6, 0) = 1
            probe(0, 3) = 0
            read(6, d23.0) = 1
            minute(2) = 8
            probe(6, 0) = 1
            """);
        Script.run("one that is IN stays NEAR for longer than five, one that is OUT stays OFF for longer than three", """
            read(0, d20.0) = 1
            read(3, d20.0) = 1
            read(6, d90.0) = 1
            minute(3) = 3
            probe(6, 0) = 0
            probe(6, 1) = 1
            probe(6, 2) = 0
            minute(5) = 8
            probe(6, 2) = 5
            probe(6, 1) = 1
            probe(0, 3) = 8
            probe(0, 0) = 1
            # and one that is OUT because it was STUCK keeps its WHY, however long it is OFF
            read(3, d20.5) = 1
            minute(1) = 9
            probe(6, 1) = 2
            probe(6, 2) = 0
            minute(4) = 13
            probe(6, 0) = 0
            probe(6, 1) = 2
            probe(6, 2) = 4
            """);
    }

    private static void goingOut() {
        Script.run("IN, with three minutes OFF in a row: OUT, WHY 1; OUT, with five NEAR: IN (both counts are 0 behind)", """
            read(0, d20.0) = 1
            read(3, d20.0) = 1
            read(6, d30.0) = 1
            minute(2) = 2
            probe(6, 0) = 1
            probe(6, 1) = 0
            probe(6, 2) = 2
            minute(1) = 3
            probe(6, 0) = 0
            probe(6, 1) = 1
            probe(6, 2) = 0
            probe(6, 3) = 0
            read(6, d20.0) = 1
            minute(4) = 7
            probe(6, 0) = 0
            probe(6, 1) = 1
            probe(6, 3) = 4
            minute(1) = 8
            probe(6, 0) = 1
            probe(6, 1) = 0
            probe(6, 2) = 0
            probe(6, 3) = 0
            minute(1) = 9
            probe(6, 3) = 1
            """);
        Script.run("OUT, with four NEAR and one OFF: not IN", """
            read(0, d20.0) = 1
            read(3, d20.0) = 1
            read(6, d30.0) = 1
            minute(3) = 3
            read(6, d20.0) = 1
            minute(4) = 7
            read(6, d30.0) = 1
            minute(1) = 8
            probe(6, 0) = 0
            probe(6, 2) = 1
            probe(6, 3) = 0
            """);
        Script.run("All PROBES of a HOUSE are looked at by the VALUE of that minute", """
            read(0, d0.0) = 1
            read(3, d10.0) = 1
            read(6, d20.0) = 1
            minute(3) = 3
            # probe 0 goes OUT ahead of probe 6, by the same VALUE
            voted(0) = d10.0
            probe(0, 1) = 1
            probe(3, 0) = 1
            probe(6, 1) = 1
            """);
    }

    private static void stuck() {
        Script.run("STUCK: the same BITS in eight minutes in a row, this one too; in seven it is not", """
            read(0, d20.0) = 1
            read(3, d20.0) = 1
            minute(6) = 6
            read(3, d20.5) = 1
            minute(1) = 7
            probe(0, 4) = 7
            probe(0, 0) = 1
            read(3, d20.25) = 1
            minute(1) = 8
            probe(0, 4) = 8
            probe(0, 0) = 0
            probe(0, 1) = 2
            probe(0, 2) = 0
            probe(0, 3) = 0
            probe(3, 0) = 1
            """);
        Script.run("another one had other BITS in this minute than in the one before: not in an earlier one", """
            read(0, d20.0) = 1
            read(3, d20.0) = 1
            minute(6) = 6
            read(3, d20.5) = 1
            minute(1) = 7
            minute(5) = 12
            probe(0, 4) = 12
            probe(0, 0) = 1
            read(3, d20.0) = 1
            read(3, d20.5) = 1
            minute(1) = 13
            probe(0, 0) = 1
            read(3, d20.0) = 1
            minute(1) = 14
            probe(0, 1) = 2
            """);
        Script.run("(any): one without a number, one that is OUT; -0.0 has other BITS than 0.0", """
            read(0, d20.0) = 1
            minute(8) = 8
            probe(0, 0) = 1
            read(3, d20.0) = 1
            minute(1) = 9
            probe(0, 1) = 2
            read(1, d20.0) = 1
            read(4, d20.0) = 1
            minute(8) = 17
            read(4, dNaN) = 1
            minute(1) = 18
            probe(1, 1) = 2
            read(2, d20.0) = 1
            read(5, d0.0) = 1
            minute(8) = 26
            read(5, d-0.0) = 1
            minute(1) = 27
            probe(2, 1) = 2
            # of another HOUSE does not count
            probe(0, 0) = 0
            """);
        Script.run("of another HOUSE does not count", """
            read(0, d20.0) = 1
            read(1, d20.0) = 1
            minute(8) = 8
            read(1, d21.0) = 1
            minute(1) = 9
            probe(0, 0) = 1
            read(8, d1.0) = 1
            minute(1) = 10
            probe(0, 0) = 1
            """);
    }

    private static void stuckBySome() {
        Script.run("STUCK, if it READS: one without a number is not", """
            read(0, d20.0) = 1
            minute(9) = 9
            read(0, d21.0) = 1
            minute(1) = 10
            probe(3, 4) = 10
            probe(3, 0) = 1
            probe(6, 0) = 1
            """);
        Script.run("STUCK comes ahead of three minutes OFF", """
            read(0, d20.0) = 1
            read(3, d20.0) = 1
            read(6, d20.0) = 1
            minute(5) = 5
            read(0, d90.0) = 1
            read(3, d90.0) = 1
            minute(2) = 7
            probe(6, 2) = 2
            read(0, d91.0) = 1
            minute(1) = 8
            probe(6, 4) = 8
            probe(6, 0) = 0
            probe(6, 1) = 2
            probe(6, 2) = 0
            """);
        Script.run("STUCK comes ahead of five NEAR: it stays OUT, and its counts are 0", """
            read(0, d20.0) = 1
            read(3, d20.0) = 1
            read(6, d30.0) = 1
            minute(3) = 3
            read(6, d20.0) = 1
            minute(4) = 7
            probe(6, 3) = 4
            read(3, d20.5) = 1
            minute(1) = 8
            # probe 0 is STUCK now, probe 6 is back: its READING is five minutes old
            probe(0, 1) = 2
            probe(6, 0) = 1
            minute(2) = 10
            probe(0, 3) = 2
            read(3, d20.25) = 1
            minute(1) = 11
            probe(6, 1) = 2
            probe(0, 1) = 2
            probe(0, 3) = 0
            """);
        Script.run("a change in the first minute is none", """
            read(0, d20.0) = 1
            read(3, d20.0) = 1
            minute(1) = 1
            probe(0, 0) = 1
            probe(0, 4) = 1
            minute(9) = 10
            probe(0, 0) = 1
            """);
    }

    private static void noValue() {
        Script.run("and a VALUE: three that READ, all OUT: none is OFF or NEAR", """
            read(0, d20.0) = 1
            read(3, d20.0) = 1
            read(6, d90.0) = 1
            minute(3) = 3
            probe(6, 1) = 1
            minute(4) = 7
            probe(6, 2) = 4
            probe(0, 3) = 7
            read(6, d91.0) = 1
            minute(1) = 8
            # probes 0 and 3 are STUCK
            probe(0, 1) = 2
            probe(3, 1) = 2
            voted(0) = d20.0
            minute(1) = 9
            voted(0) = dNaN
            probe(0, 2) = 0
            probe(0, 3) = 0
            probe(3, 3) = 0
            probe(6, 2) = 0
            probe(6, 3) = 0
            minute(9) = 18
            probe(0, 0) = 0
            probe(3, 0) = 0
            probe(6, 0) = 0
            probe(6, 2) = 0
            """);
    }

    private static void weather() {
        Script.run("OUTSIDE: SUN (0 .. 1000), WARMTH (-40000 .. 60000), VAPOUR (0 .. 40000), STORM, RAIN (0, 1)", """
            weather(0, -1) = -100000
            weather(0, 1001) = -100000
            weather(0, 1000) = 0
            weather(0, 0) = 1000
            weather(1, -40001) = -100000
            weather(1, 60001) = -100000
            weather(1, -40000) = 10000
            weather(1, 60000) = -40000
            weather(1, 0) = 60000
            weather(2, -1) = -100000
            weather(2, 40001) = -100000
            weather(2, 0) = 5000
            weather(2, 40000) = 0
            weather(3, -1) = -100000
            weather(3, 2) = -100000
            weather(3, 1) = 0
            weather(3, 0) = 1
            weather(4, -1) = -100000
            weather(4, 2) = -100000
            weather(4, 1) = 0
            weather(4, 0) = 1
            weather(-1, 0) = -100000
            weather(5, 0) = -100000
            weather(2147483647, 0) = -100000
            weather(0, -2147483648) = -100000
            weather(2, 0) = 40000
            weather(3, 0) = 0
            """);
    }

    private static void marks() {
        Script.run("MARKS (6 at most): a minute of the day (0 .. 1439), rising, a WISH (-50000 .. 60000)", """
            mark(-1, 0, 0) = BAD
            mark(3, 0, 0) = BAD
            mark(0, -1, 0) = BAD
            mark(0, 1440, 0) = BAD
            mark(0, 0, -50001) = BAD
            mark(0, 0, 60001) = BAD
            unmark(0) = 0
            mark(0, 0, -50000) = 1
            mark(0, 0, 0) = BAD
            mark(0, 1, 60000) = 2
            mark(0, 1, 0) = BAD
            mark(0, 0, 0) = BAD
            mark(0, 2, 0) = 3
            mark(0, 3, 0) = 4
            mark(0, 4, 0) = 5
            mark(0, 1438, 7) = 6
            mark(0, 1439, 0) = FULL
            mark(0, 1438, 0) = BAD
            mark(0, 1439, 60001) = BAD
            mark(0, 1440, 0) = BAD
            wish(0, 1438) = 7
            wish(0, 0) = -50000
            wish(0, 1) = 60000
            mark(1, 1439, 5) = 1
            mark(1, 1439, 5) = BAD
            unmark(0) = 6
            unmark(0) = 0
            unmark(1) = 1
            mark(2, 5, 5) = 1
            unmark(2) = 1
            unmark(2) = 0
            wish(2, 5) = -100001
            unmark(-1) = BAD
            unmark(3) = BAD
            mark(0, 0, 0) = 1
            """);
    }

    private static void wishes() {
        Script.run("wish: at a minute of the day; BAD: -100000; NO (without MARKS): -100001", """
            wish(0, 0) = -100001
            wish(0, -1) = -100000
            wish(0, 1440) = -100000
            wish(-1, 0) = -100000
            wish(3, 0) = -100000
            mark(0, 5, 1) = 1
            wish(0, 0) = 1
            wish(0, 1439) = 1
            wish(0, -1) = -100000
            wish(0, 1440) = -100000
            wish(1, 0) = -100001
            unmark(0) = 1
            wish(0, 5) = -100001
            """);
        Script.run("one MARK alone: its WISH always", """
            mark(0, 700, -3) = 1
            wish(0, 0) = -3
            wish(0, 699) = -3
            wish(0, 700) = -3
            wish(0, 701) = -3
            wish(0, 1439) = -3
            """);
        Script.run("between two the line's, cut downwards; round midnight, too", """
            mark(0, 100, 0) = 1
            mark(0, 103, -1) = 2
            wish(0, 100) = 0
            wish(0, 101) = -1
            wish(0, 102) = -1
            wish(0, 103) = -1
            # 1437 minutes up by one: only the last step is enough
            wish(0, 104) = -1
            wish(0, 1439) = -1
            wish(0, 0) = -1
            wish(0, 99) = -1
            mark(1, 0, 10) = 1
            mark(1, 1439, 1449) = 2
            wish(1, 0) = 10
            wish(1, 1) = 11
            wish(1, 1438) = 1448
            wish(1, 1439) = 1449
            mark(2, 1, 1439) = 1
            mark(2, 1439, 1441) = 2
            # from 1439 to the first of the next day: two minutes
            wish(2, 1439) = 1441
            wish(2, 0) = 1440
            wish(2, 1) = 1439
            """);
        Script.run("the widest line", """
            mark(0, 0, -50000) = 1
            mark(0, 1439, 60000) = 2
            # 110000 times 1438 by 1439
            wish(0, 1438) = 59923
            wish(0, 1) = -49924
            wish(0, 1439) = 60000
            """);
    }

    private static void minutes() {
        Script.run("minute: n (1 .. 100)", """
            minute(0) = BAD
            minute(-1) = BAD
            minute(101) = BAD
            minute(2147483647) = BAD
            minute(-2147483648) = BAD
            told(0) = 0
            minute(1) = 1
            minute(100) = 101
            told(0) = 101
            """);
        Script.run("the day's minute is it modulo 1440", """
            mark(0, 0, 0) = 1
            mark(0, 1, 16000) = 2
            read(0, d16.0) = 1
            # in STORM REST stays
            weather(3, 1) = 0
            14 * minute(100)
            minute(39) = 1439
            air(0, 5) = 0
            weather(3, 0) = 1
            minute(1) = 1440
            air(0, 5) = 1000
            minute(1) = 1441
            air(0, 5) = 1000
            """);
        Script.run("air: BAD: 0", """
            air(-1, 0) = 0
            air(3, 0) = 0
            air(0, -1) = 0
            air(0, 11) = 0
            air(0, 0) = 20000
            air(2, 1) = 8000
            air(2, 10) = 0
            """);
    }

    private static void storms() {
        Script.run("with STORM the VENT goes to 0, by 10 at most, the PIPE and REST stay", """
            mark(0, 0, 10000) = 1
            read(0, d12.0) = 1
            minute(1) = 1
            # d 2000: REST 125, MOVE 5
            air(0, 3) = 5
            air(0, 5) = 125
            weather(3, 1) = 0
            minute(1) = 2
            air(0, 3) = 0
            air(0, 4) = 0
            air(0, 5) = 125
            minute(1) = 3
            air(0, 3) = 0
            weather(3, 0) = 1
            read(0, d50.0) = 1
            minute(2) = 5
            air(0, 3) = 20
            weather(3, 1) = 0
            minute(1) = 6
            air(0, 3) = 10
            air(0, 5) = 4000
            # a PIPE of 40
            weather(3, 0) = 1
            read(0, d-50.0) = 1
            minute(5) = 11
            air(0, 3) = 0
            air(0, 4) = 40
            weather(3, 1) = 0
            minute(5) = 16
            air(0, 4) = 40
            """);
    }

    private static void withoutValueOrWish() {
        Script.run("else without a VALUE or a WISH VENT goes to 10, PIPE to 30, by 10 at most each", """
            mark(0, 0, 10000) = 1
            read(0, d11.6) = 1
            read(1, d50.0) = 1
            minute(1) = 1
            # d 1600: MOVE 4
            air(0, 3) = 4
            # HOUSE 1 has a VALUE and no WISH, HOUSE 2 has neither
            air(1, 3) = 10
            air(1, 4) = 10
            air(1, 5) = 0
            air(2, 3) = 10
            air(2, 4) = 10
            minute(1) = 2
            air(1, 3) = 10
            air(1, 4) = 20
            read(0, dNaN) = 1
            minute(1) = 3
            air(0, 3) = 10
            air(0, 4) = 10
            # d 1600 twice
            air(0, 5) = 200
            minute(5) = 8
            air(0, 4) = 30
            air(1, 4) = 30
            air(2, 4) = 30
            air(2, 3) = 10
            """);
        Script.run("VENT and PIPE come down to 10 and 30, too", """
            mark(0, 0, 10000) = 1
            read(0, d50.0) = 1
            minute(10) = 10
            air(0, 3) = 100
            unmark(0) = 1
            minute(1) = 11
            air(0, 3) = 90
            air(0, 4) = 10
            minute(8) = 19
            air(0, 3) = 10
            minute(1) = 20
            air(0, 3) = 10
            mark(1, 0, 10000) = 1
            read(1, d-50.0) = 1
            minute(10) = 30
            air(1, 4) = 100
            unmark(1) = 1
            minute(6) = 36
            air(1, 4) = 40
            minute(1) = 37
            air(1, 4) = 30
            minute(1) = 38
            air(1, 4) = 30
            """);
        Script.run("the last part is less than 10", """
            mark(0, 0, 10000) = 1
            read(0, d-50.0) = 1
            minute(3) = 3
            air(0, 4) = 30
            # d 2000: REST -3875, MOVE 5 less 7
            read(0, d12.0) = 1
            minute(1) = 4
            air(0, 4) = 32
            unmark(0) = 1
            minute(1) = 5
            air(0, 4) = 30
            air(0, 3) = 10
            """);
    }

    private static void moves() {
        Script.run("above 0 the PIPE becomes less, 0 at least, what is left comes to the VENT", """
            mark(0, 0, 10000) = 1
            # d -2000: REST -125, MOVE -5
            read(0, d8.0) = 1
            minute(1) = 1
            air(0, 3) = 0
            air(0, 4) = 5
            # d 500: REST -94, MOVE 1
            read(0, d10.5) = 1
            minute(1) = 2
            air(0, 5) = -94
            air(0, 3) = 0
            air(0, 4) = 4
            # d 1600: REST 6, MOVE 4: the PIPE is used up, nothing is left
            read(0, d11.6) = 1
            minute(1) = 3
            air(0, 5) = 6
            air(0, 3) = 0
            air(0, 4) = 0
            # d 500: MOVE 1
            read(0, d10.5) = 1
            minute(1) = 4
            air(0, 3) = 1
            air(0, 4) = 0
            """);
        Script.run("below 0 likewise the VENT, then the PIPE", """
            mark(0, 0, 10000) = 1
            # d 2000: REST 125, MOVE 5
            read(0, d12.0) = 1
            minute(1) = 1
            air(0, 3) = 5
            # d -500: REST 94, MOVE -1
            read(0, d9.5) = 1
            minute(1) = 2
            air(0, 5) = 94
            air(0, 3) = 4
            air(0, 4) = 0
            # d -1600: REST -6, MOVE -4
            read(0, d8.4) = 1
            minute(1) = 3
            air(0, 3) = 0
            air(0, 4) = 0
            # d -2000: REST -131, MOVE -5
            read(0, d8.0) = 1
            minute(1) = 4
            air(0, 3) = 0
            air(0, 4) = 5
            # d 3000: REST 56, MOVE 7
            read(0, d13.0) = 1
            minute(1) = 5
            air(0, 3) = 2
            air(0, 4) = 0
            """);
        Script.run("100 at most, of the VENT and of the PIPE", """
            mark(0, 0, 10000) = 1
            mark(1, 0, 10000) = 1
            read(0, d12.0) = 1
            read(1, d8.0) = 1
            minute(1) = 1
            air(0, 3) = 5
            air(1, 4) = 5
            read(0, d50.0) = 1
            read(1, d-50.0) = 1
            minute(9) = 10
            air(0, 3) = 95
            air(1, 4) = 95
            minute(1) = 11
            air(0, 3) = 100
            air(1, 4) = 100
            minute(1) = 12
            air(0, 3) = 100
            air(0, 4) = 0
            air(1, 4) = 100
            air(1, 3) = 0
            """);
    }

    private static void smallMoves() {
        Script.run("REST is more by d / 16 (cut)", """
            mark(0, 0, 0) = 1
            mark(1, 0, 0) = 1
            mark(2, 0, 0) = 1
            read(0, d0.0151) = 1
            read(1, d-0.0151) = 1
            read(2, d0.0311) = 1
            minute(1) = 1
            air(0, 5) = 0
            air(1, 5) = 0
            air(2, 5) = 1
            read(0, d0.0161) = 1
            read(1, d-0.0161) = 1
            read(2, d-0.0311) = 1
            minute(1) = 2
            air(0, 5) = 1
            air(1, 5) = -1
            air(2, 5) = 0
            """);
        Script.run("REST stays while there is no WISH, and when MARKS go or come", """
            mark(0, 0, 0) = 1
            read(0, d1.6) = 1
            minute(1) = 1
            air(0, 5) = 100
            unmark(0) = 1
            air(0, 5) = 100
            minute(2) = 3
            air(0, 5) = 100
            mark(0, 0, 0) = 1
            air(0, 5) = 100
            minute(1) = 4
            air(0, 5) = 200
            read(0, dNaN) = 1
            minute(1) = 5
            air(0, 5) = 200
            """);
        Script.run("MOVE is d / 400 and REST / 500 (each cut)", """
            mark(0, 0, 10000) = 1
            mark(1, 0, 10000) = 1
            mark(2, 0, 10000) = 1
            read(0, d10.3991) = 1
            read(1, d9.6009) = 1
            read(2, d10.4001) = 1
            minute(1) = 1
            # 399, -399, 400
            air(0, 3) = 0
            air(0, 5) = 24
            # 9.6009 is 9600, cut: -400
            air(1, 4) = 1
            air(1, 5) = -25
            air(2, 3) = 1
            """);
        Script.run("-399 is cut to no MOVE, -400 is one", """
            mark(0, 0, 10000) = 1
            mark(1, 0, 10000) = 1
            read(0, d9.6011) = 1
            read(1, d9.6001) = 1
            minute(1) = 1
            air(0, 3) = 0
            air(0, 4) = 0
            air(0, 5) = -24
            air(1, 4) = 1
            """);
        Script.run("REST / 500: 499 and 500, above and below 0", """
            mark(0, 0, 10000) = 1
            mark(1, 0, 10000) = 1
            mark(2, 0, 10000) = 1
            read(0, d17.9841) = 1
            read(1, d18.0001) = 1
            read(2, d2.0161) = 1
            minute(1) = 1
            air(0, 5) = 499
            air(1, 5) = 500
            air(2, 5) = -499
            air(0, 3) = 10
            air(1, 3) = 10
            air(2, 4) = 10
            read(0, d10.0) = 1
            read(1, d10.0) = 1
            read(2, d10.0) = 1
            minute(1) = 2
            air(0, 3) = 10
            air(1, 3) = 11
            air(2, 4) = 10
            # d -160: REST -509
            read(2, d9.8401) = 1
            minute(1) = 3
            air(2, 5) = -509
            air(2, 4) = 11
            """);
        Script.run("the two are cut each, then put together: of unlike signs", """
            mark(0, 0, 10000) = 1
            read(0, d18.0001) = 1
            minute(1) = 1
            air(0, 5) = 500
            air(0, 3) = 10
            # d -399: REST 476: neither is a MOVE
            read(0, d9.6011) = 1
            minute(1) = 2
            air(0, 5) = 476
            air(0, 3) = 10
            """);
    }

    private static void limitsOfMoves() {
        Script.run("d at least -100000, at most 100000; REST at least -4000, at most 4000; MOVE at most 10", """
            mark(0, 0, 0) = 1
            mark(1, 0, 0) = 1
            read(0, d63.9999) = 1
            read(1, d-63.9999) = 1
            minute(1) = 1
            # 63999 by 16 is 3999
            air(0, 5) = 3999
            air(1, 5) = -3999
            air(0, 3) = 10
            air(1, 4) = 10
            read(0, d0.0161) = 1
            read(1, d-0.0161) = 1
            minute(1) = 2
            air(0, 5) = 4000
            air(1, 5) = -4000
            minute(1) = 3
            air(0, 5) = 4000
            air(1, 5) = -4000
            # MOVE by REST alone is 8
            air(0, 3) = 26
            air(1, 4) = 26
            # 100000 by 16 is 6250, whatever is beyond
            read(0, d-100.5) = 1
            read(1, d100.5) = 1
            minute(1) = 4
            air(0, 5) = -2250
            air(1, 5) = 2250
            air(0, 3) = 16
            air(1, 4) = 16
            """);
        Script.run("v is the VALUE times 1000, cut to a long, at least -1000000000, at most 1000000000", """
            mark(0, 0, 60000) = 1
            mark(1, 0, -50000) = 1
            read(0, 0xFFF0000000000000) = 1
            read(1, 0x7FF0000000000000) = 1
            read(2, d1.0E300) = 1
            mark(2, 0, 0) = 1
            minute(1) = 1
            air(0, 5) = -4000
            air(1, 5) = 4000
            air(2, 5) = 4000
            air(0, 4) = 10
            air(1, 3) = 10
            read(0, 0x7FEFFFFFFFFFFFFF) = 1
            read(1, 0xFFEFFFFFFFFFFFFF) = 1
            read(2, d-9.3E15) = 1
            minute(1) = 2
            air(0, 5) = 2250
            air(1, 5) = -2250
            air(2, 5) = -2250
            read(0, d-0.0) = 1
            minute(1) = 3
            # 0 less 60000 by 16 is -3750
            air(0, 5) = -1500
            """);
        Script.run("cut to a long: to 0", """
            mark(0, 0, 0) = 1
            mark(1, 0, 0) = 1
            read(0, d0.0159999) = 1
            read(1, d-0.0159999) = 1
            minute(1) = 1
            air(0, 5) = 0
            air(1, 5) = 0
            """);
    }

    private static void rain() {
        Script.run("With RAIN a VENT that would be above 20 becomes the greater one of 20 and what it was less 10", """
            mark(0, 0, 10000) = 1
            read(0, d50.0) = 1
            weather(4, 1) = 0
            minute(1) = 1
            air(0, 3) = 10
            minute(1) = 2
            air(0, 3) = 20
            minute(1) = 3
            air(0, 3) = 20
            weather(4, 0) = 1
            minute(2) = 5
            air(0, 3) = 40
            # 50 would be: 30
            weather(4, 1) = 0
            minute(1) = 6
            air(0, 3) = 30
            # 34 would be, with d -6000, REST 3625, MOVE -15 and 7: it would be 22
            read(0, d4.0) = 1
            minute(1) = 7
            air(0, 5) = 3625
            air(0, 3) = 20
            """);
        Script.run("a VENT that would be 21, 20 or less", """
            mark(0, 0, 10000) = 1
            read(0, d10.4001) = 1
            minute(1) = 1
            air(0, 3) = 1
            weather(4, 1) = 0
            read(0, d50.0) = 1
            minute(1) = 2
            air(0, 3) = 11
            minute(1) = 3
            air(0, 3) = 20
            weather(4, 0) = 1
            # 20 and 10, and 10 more, less 9: 31
            minute(1) = 4
            air(0, 3) = 30
            read(0, d7.2) = 1
            minute(1) = 5
            # d -2800: REST 3825, MOVE -7 and 7
            air(0, 5) = 3825
            air(0, 3) = 30
            """);
        Script.run("RAIN does not open a VENT, nor does it count with STORM", """
            weather(4, 1) = 0
            minute(1) = 1
            air(0, 3) = 10
            minute(1) = 2
            air(0, 3) = 10
            weather(3, 1) = 0
            minute(1) = 3
            air(0, 3) = 0
            minute(1) = 4
            air(0, 3) = 0
            """);
        Script.run("with RAIN and without a VALUE: 35 would be 25, it becomes 25", """
            mark(0, 0, 10000) = 1
            read(0, d50.0) = 1
            minute(3) = 3
            read(0, d4.0) = 1
            minute(1) = 4
            # d -6000: REST 3625, MOVE -15 and 7 is -8
            air(0, 3) = 22
            read(0, d50.0) = 1
            minute(2) = 6
            air(0, 3) = 42
            unmark(0) = 1
            weather(4, 1) = 0
            minute(1) = 7
            air(0, 3) = 32
            minute(1) = 8
            air(0, 3) = 22
            # 12 would be: not above 20
            minute(1) = 9
            air(0, 3) = 12
            """);
        Script.run("with RAIN in STORM: 22 goes to 12", """
            mark(0, 0, 10000) = 1
            read(0, d50.0) = 1
            minute(4) = 4
            air(0, 3) = 40
            weather(4, 1) = 0
            weather(3, 1) = 0
            minute(1) = 5
            air(0, 3) = 30
            minute(2) = 7
            air(0, 3) = 10
            """);
    }

    private static void warmth() {
        Script.run("IN is SUN / 8 + 5 PIPE; WET is 12 + SUN / 50", """
            weather(3, 1) = 0
            weather(0, 7) = 0
            minute(1) = 1
            air(0, 6) = 0
            air(0, 8) = 12
            weather(0, 8) = 7
            minute(1) = 2
            air(0, 6) = 1
            air(0, 8) = 24
            weather(0, 49) = 8
            minute(1) = 3
            air(0, 6) = 7
            air(0, 8) = 36
            weather(0, 50) = 49
            minute(1) = 4
            air(0, 6) = 13
            air(0, 8) = 49
            weather(0, 1000) = 50
            minute(1) = 5
            air(0, 6) = 138
            air(0, 8) = 81
            """);
        Script.run("IN is by the PIPE, LOST by the VENT, as they became in that minute", """
            minute(2) = 2
            air(0, 3) = 10
            air(0, 4) = 20
            # 50 and 100; 10000 times 12 by 200, 9450 times 12 by 200
            air(0, 6) = 150
            air(0, 7) = 1167
            air(0, 0) = 18983
            mark(0, 0, 10000) = 1
            read(0, d50.0) = 1
            minute(1) = 3
            # MOVE 10: the PIPE 10, the VENT 10 still
            air(0, 3) = 10
            air(0, 4) = 10
            air(0, 6) = 200
            # the PIPE is used up first, then the VENT opens
            minute(2) = 5
            air(0, 3) = 20
            air(0, 4) = 0
            air(0, 6) = 200
            """);
        Script.run("LOST: times (2 + VENT), by 200, cut, above and below 0", """
            weather(3, 1) = 0
            weather(1, 19901) = 10000
            minute(1) = 1
            air(0, 7) = 0
            air(0, 0) = 20000
            weather(1, 20099) = 19901
            minute(1) = 2
            air(0, 7) = 0
            weather(1, 20100) = 20099
            minute(1) = 3
            air(0, 7) = -1
            air(0, 0) = 20001
            weather(1, 19901) = 20100
            minute(1) = 4
            air(0, 7) = 0
            air(0, 0) = 20000
            """);
    }

    private static void vapour() {
        Script.run("GONE: times VENT by 80, cut, above and below 0", """
            weather(2, 8001) = 5000
            minute(1) = 1
            # -1 times 10 by 80
            air(0, 9) = 0
            air(0, 1) = 8012
            weather(2, 8005) = 8001
            minute(1) = 2
            # 7 times 10 by 80
            air(0, 9) = 0
            air(0, 1) = 8024
            weather(2, 8016) = 8005
            minute(1) = 3
            air(0, 9) = 1
            air(0, 1) = 8035
            weather(2, 8043) = 8016
            minute(1) = 4
            air(0, 9) = 0
            air(0, 1) = 8048
            """);
        Script.run("without a VENT nothing is GONE", """
            weather(3, 1) = 0
            weather(2, 40000) = 5000
            minute(3) = 3
            air(0, 9) = 0
            air(0, 1) = 8036
            """);
    }

    private static void dew() {
        Script.run("What is above 9000 falls as DEW, if TABLE 0 has no LINES; it is not used", """
            rest(0, 1) = 1
            weather(3, 1) = 0
            weather(0, 400) = 0
            minute(50) = 50
            air(0, 1) = 9000
            air(0, 2) = 0
            minute(1) = 51
            air(0, 1) = 9000
            air(0, 2) = 20
            # DEW ever
            minute(3) = 54
            air(0, 2) = 80
            air(2, 2) = 80
            told(10) = 0
            laid(0) = NONE
            """);
        Script.run("9000, without using it, if TABLE 0 has no LINES, also when others have some and are LAID", """
            line(1, 0, 5) = 1
            line(2, 0, 6) = 1
            value(1, 0) = 5
            rest(0, 1) = 1
            weather(3, 1) = 0
            weather(0, 400) = 0
            minute(51) = 51
            air(0, 1) = 9000
            air(0, 2) = 20
            told(10) = 1
            laid(1) = NONE
            rest(0, 2) = 1
            """);
        Script.run("TABLE 0's value (0 at least), with its OFFSET", """
            rest(0, 1) = 1
            line(0, 0, 100) = 1
            line(1, 0, 77) = 1
            minute(1) = 1
            air(0, 1) = 101
            air(2, 1) = 101
            told(10) = 2
            laid(0) = 1
            laid(1) = 0
            """);
        Script.run("0 at least: a value of -1, and of 0", """
            line(0, 19, -1) = 1
            minute(1) = 1
            air(0, 1) = 0
            # 8000 and 12, less 3000 times 10 by 80
            air(0, 2) = 7637
            air(0, 10) = 0
            """);
        Script.run("at WARMTH / 1000 (cut)", """
            line(0, 19, 100) = 1
            line(0, 20, 7000) = 2
            weather(3, 1) = 0
            weather(1, 19900) = 10000
            minute(1) = 1
            air(0, 0) = 19999
            air(0, 1) = 100
            """);
        Script.run("at WARMTH / 1000 (cut): 20000 is 20", """
            line(0, 19, 100) = 1
            line(0, 20, 7000) = 2
            weather(3, 1) = 0
            weather(1, 19999) = 10000
            minute(1) = 1
            air(0, 0) = 20000
            air(0, 1) = 7000
            """);
        Script.run("at WARMTH / 1000 (cut): from -999 to 999 is 0, -1000 is -1", """
            line(0, -1, 50) = 1
            line(0, 0, 60) = 2
            line(0, 1, 70) = 3
            weather(3, 1) = 0
            weather(1, -40000) = 10000
            minute(39) = 39
            air(0, 0) = 560
            air(0, 1) = 60
            minute(2) = 41
            air(0, 0) = -246
            air(0, 1) = 60
            minute(1) = 42
            air(0, 0) = -643
            air(0, 1) = 60
            minute(1) = 43
            air(0, 0) = -1036
            air(0, 1) = 50
            """);
    }

    private static void bound() {
        String ready = """
            mark(0, 0, 0) = 1
            read(0, d50.0) = 1
            weather(2, 40000) = 5000
            minute(10) = 10
            air(0, 3) = 100
            air(0, 10) = 0
            weather(2, 0) = 40000
            minute(1) = 11
            """;
        Script.run("VAPOUR is 0 at least (what lacks is BOUND): one lacks", "line(0, 0, 52) = 1\n" + ready + """
            # 52 and 12, less 65
            air(0, 1) = 0
            air(0, 10) = 1
            minute(1) = 12
            air(0, 1) = 12
            air(0, 10) = 1
            # of all minutes: 52 again, and one lacks again
            weather(2, 40000) = 0
            minute(1) = 13
            air(0, 1) = 52
            weather(2, 0) = 40000
            minute(1) = 14
            air(0, 1) = 0
            air(0, 10) = 2
            air(0, 11) = 0
            air(0, -1) = 0
            air(0, 2147483647) = 0
            air(-1, 10) = 0
            """);
        Script.run("VAPOUR is 0 at least: none lacks", "line(0, 0, 48) = 1\n" + ready + """
            # 48 and 12, less 60
            air(0, 1) = 0
            air(0, 10) = 0
            """);
        Script.run("VAPOUR is 0 at least: one is left", "line(0, 0, 44) = 1\n" + ready + """
            # 44 and 12, less 55
            air(0, 1) = 1
            air(0, 10) = 0
            """);
    }
}

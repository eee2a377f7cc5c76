/**
 * The edges of the document's Terms and of its parts 1 and 2: each run bears the sentence that names the edge, and would
 * fail if that sentence were broken.
 */
public final class RowEdgesTest {
    public static void main(String[] args) {
        orderOfAnswers();
        binsAndForms();
        bitsOfWholeOnes();
        bitsOfReals();
        lengths();
        takenFor();
        beds();
        storeys();
        places();
        shiftsOfCells();
        shiftsOfPlaces();
        shiftsOfOthers();
        copies();
        alikes();
        plants();
        asks();
        bodies();
        traces();
        cards();
        leads();
        Script.end();
    }

    private static void orderOfAnswers() {
        Script.run("Answers, the first of these that fits: BAD ahead of the FAULT", """
            row(16, 4, -1) = BAD
            row(0, 8, -1) = BAD
            grid(0, 9, -1, 41, false) = BAD
            grid(0, 9, 11, -1, false) = BAD
            grid(0, 12, -1, 0, false) = BAD
            storeys(16, -1) = BAD
            tray(0, 16, -1) = BAD
            tray(16, 12, -1) = BAD
            put(15, 8, 0, 0) = BAD
            setBed(15, 11, 0, 0, 0) = BAD
            set(15, 0, 16) = BAD
            lift(16, 15, 0) = BAD
            liftAs(0, 15, 0, 18) = BAD
            shift(15, -1, 16, 0, 0) = BAD
            size(15, 2) = BAD
            ask(15, 8) = BAD
            setField(15, 8, 0) = BAD
            lead(15, 2, 0) = BAD
            follow(0, 15, 2) = BAD
            led(15, 3) = BAD
            shares(15, -1, 0) = BAD
            compare(5, 15, 0, 15, 0) = BAD
            told(2) = 0
            fault() = 0
            """);
        Script.run("BINS 0 .. 15: the last one is as the others", """
            grid(15, 10, 2, 1, false) = 1
            setBed(15, 10, 1, 0, d2.0) = 1
            bed(15, 10, 1, 0) = d2.0
            lift(0, 15, 1) = 1
            get(0, 7, 0) = d2.0
            lift(15, 15, 1) = 1
            get(15, 7, 0) = d2.0
            alike(0, 15) = 2
            copy(15, 15, false) = 1
            alike(0, 15) = 1
            share(0, 15) = 1
            alike(0, 15) = 2
            storeys(15, 2) = 1
            form(15) = 11
            liftAs(14, 15, 1, 9) = 1
            form(14) = NONE
            share(15, 0) = 1
            form(15) = 7
            tray(15, 14, 1) = 1
            form(15) = 14
            plant(14, 0, 0, 0, 0, 0) = 0
            set(15, 0, 14) = 1
            liftAs(15, 15, 0, 16) = 1
            form(15) = 16
            card(15) = 0
            lead(15, 1, 14) = 1
            follow(13, 15, 1) = 1
            alike(13, 14) = 2
            follow(15, 15, 1) = 1
            alike(15, 14) = 2
            share(15, NONE) = 1
            form(15) = NONE
            told(2) = 0
            """);
        Script.run("BINS 0 .. 15: the last one is none of those ahead of it", """
            row(15, 4, 2) = 1
            put(15, 4, 0, 5) = 1
            put(15, 4, 1, 6) = 1
            row(14, 4, 2) = 1
            is(15, 4) = 1
            shift(15, 0, 14, 1, 1) = 1
            get(14, 4, 0) = 0
            get(14, 4, 1) = 5
            shift(14, 1, 15, 1, 1) = 1
            get(15, 4, 1) = 5
            wholeMean(15) = 1
            answer() = 5
            wholeMean(14) = 1
            answer() = 2
            row(14, 7, 1) = 1
            is(15, 4) = 1
            is(14, 4) = 0
            row(15, 7, 1) = 1
            put(15, 7, 0, d3.0) = 1
            real(7, 15, 1) = d3.0
            real(7, 14, 1) = 0
            compare(7, 15, 0, 14, 0) = 44
            compare(7, 14, 0, 15, 0) = 35
            grid(13, 9, 1, 1, false) = 1
            storeys(15, 1) = 1
            set(15, 0, 13) = 1
            storeys(14, 1) = 1
            countUp(15, 0, 0, 0, true) = 1
            countUp(14, 0, 0, 0, true) = 0
            plant(14, 0, 1, 1, 0, 0) = 0
            plant(15, 0, 2, 2, 0, 0) = 1
            ask(15, 0) = 1
            answer() = 2
            ask(14, 0) = 1
            answer() = 1
            # 14 and 15 are told apart: a part that is NOTHING is NULL, in its turn
            share(15, NONE) = 1
            plant(0, 2, 0, 0, 15, 14) = 2
            ask(0, 0) = -11
            trace(1) = NONE
            plant(0, 2, 0, 0, 14, 15) = 3
            ask(0, 0) = -11
            trace(1) = 1
            row(2, 4, 1) = 1
            put(2, 4, 0, 1) = 1
            shares(2, 9, 15) = 1
            form(15) = 5
            form(14) = 16
            grid(0, 9, 1, 1, false) = 1
            form(1) = NONE
            liftAs(1, 0, 0, 4) = 1
            form(1) = 4
            form(0) = 9
            """);
        Script.run("BAD: no such BIN, no such LANE: BITS are 0, and no FAULT comes", """
            row(0, 0, 2) = 1
            put(0, 0, 0, 1) = 1
            row(15, 7, 2) = 1
            put(15, 7, 0, 9) = 1
            get(0, 0, 0) = 1
            get(-1, 0, 0) = 0
            get(0, -1, 0) = 0
            get(15, 7, 0) = 9
            get(16, 7, 0) = 0
            get(15, 8, 0) = 0
            put(-1, 0, 0, 0) = BAD
            put(0, -1, 0, 0) = BAD
            put(16, 7, 0, 0) = BAD
            put(15, 8, 0, 0) = BAD
            card(0) = 0
            card(15) = 1
            setField(0, 0, 1) = 1
            setField(15, 7, 8) = 1
            field(0, 0) = 1
            field(-1, 0) = 0
            field(0, -1) = 0
            field(15, 7) = 8
            field(16, 7) = 0
            field(15, 8) = 0
            setField(-1, 0, 0) = BAD
            setField(0, -1, 0) = BAD
            setField(16, 7, 0) = BAD
            setField(15, 8, 0) = BAD
            grid(1, 8, 1, 1, false) = 1
            setBed(1, 8, 0, 0, 5) = 1
            bed(-1, 8, 0, 0) = 0
            bed(16, 8, 0, 0) = 0
            bed(1, 7, 0, 0) = 0
            bed(1, 11, 0, 0) = 0
            countUp(-1, 0, 0, 0, true) = 0
            countUp(16, 0, 0, 0, true) = 0
            tray(-1, 12, 1) = BAD
            tray(16, 12, 1) = BAD
            tray(2, 11, 1) = BAD
            tray(2, 16, 1) = BAD
            liftAs(-1, 1, 0, 3) = BAD
            liftAs(16, 1, 0, 3) = BAD
            liftAs(2, -1, 0, 3) = BAD
            liftAs(2, 16, 0, 3) = BAD
            liftAs(2, 1, 0, -1) = BAD
            liftAs(2, 1, 0, 18) = BAD
            form(2) = NONE
            told(1) = 6
            told(2) = 0
            fault() = 0
            """);
        Script.run("A call with one answers -10 less it (BITS: 0)", """
            get(0, 0, 0) = 0
            fault() = 1
            bed(0, 9, 0, 0) = 0
            countUp(0, 0, 0, 0, false) = 0
            field(0, 0) = 0
            real(7, 0, 0) = 0
            quotient(5, 1, 0, 0) = 0
            fault() = 6
            told(2) = 6
            put(0, 0, 0, 0) = -11
            row(1, 4, 1) = 1
            put(1, 4, 1, 0) = -12
            row(2, 4, -1) = -13
            put(1, 5, 0, 0) = -14
            tray(3, 12, 1) = 1
            set(3, 0, 1) = -15
            plant(4, 0, 0, 0, 0, 0) = 0
            ask(4, 2) = -16
            step(0, 9, 0, 0, 0) = 0
            run(0) = -17
            step(1, 7, 0, 0, 0) = 0
            run(1) = -18
            told(2) = 14
            """);
    }

    private static void binsAndForms() {
        Script.run("BINS 0 .. 15 hold NOTHING (at first)", """
            form(0) = NONE
            form(15) = NONE
            size(0, 0) = -11
            size(15, 1) = -11
            is(0, 0) = 0
            is(15, 17) = 0
            row(0, 4, 1) = 1
            row(15, 4, 1) = 1
            form(14) = NONE
            form(-1) = BAD
            form(16) = BAD
            form(2147483647) = BAD
            form(-2147483648) = BAD
            """);
        Script.run("LANES: 0 truths .. 7 doubles", """
            row(0, 0, 1) = 1
            row(1, 7, 1) = 1
            row(2, -1, 1) = BAD
            row(2, 8, 1) = BAD
            row(2, 2147483647, 1) = BAD
            row(2, -2147483648, 1) = BAD
            get(0, -1, 0) = 0
            get(1, 8, 0) = 0
            put(0, -1, 0, 1) = BAD
            put(1, 8, 0, 1) = BAD
            told(2) = 0
            """);
        Script.run("is: FORMS 0 to 17; NOTHING is of none", """
            is(0, 0) = 0
            is(0, 12) = 0
            is(0, 15) = 0
            is(0, 16) = 0
            is(0, 17) = 0
            is(0, 18) = BAD
            is(0, -1) = BAD
            is(-1, 0) = BAD
            is(16, 17) = BAD
            told(2) = 0
            """);
        Script.run("is: FORMS 12 to 15 are asked of PLANTS, too; of a TRAY its own one alone", """
            tray(0, 12, 1) = 1
            tray(1, 15, 1) = 1
            is(0, 12) = 1
            is(0, 13) = 0
            is(0, 15) = 0
            is(1, 15) = 1
            is(1, 12) = 0
            is(0, 11) = 0
            is(0, 16) = 0
            """);
        Script.run("share: from NONE: NOTHING", """
            row(0, 4, 1) = 1
            share(0, -2) = BAD
            share(0, 16) = BAD
            form(0) = 4
            share(-1, NONE) = BAD
            share(16, NONE) = BAD
            share(0, 0) = 1
            form(0) = 4
            share(0, NONE) = 1
            form(0) = NONE
            """);
    }

    private static void bitsOfWholeOnes() {
        Script.run("From BITS: a truth by the lowest one", """
            row(0, 0, 1) = 1
            put(0, 0, 0, -2) = 1
            get(0, 0, 0) = 0
            put(0, 0, 0, -1) = 1
            get(0, 0, 0) = 1
            put(0, 0, 0, 0x8000000000000000) = 1
            get(0, 0, 0) = 0
            put(0, 0, 0, 0x7FFFFFFFFFFFFFFF) = 1
            get(0, 0, 0) = 1
            """);
        Script.run("others by the lowest ones: bytes, shorts, ints wrap", """
            row(0, 1, 1) = 1
            put(0, 1, 0, 127) = 1
            get(0, 1, 0) = 127
            put(0, 1, 0, 128) = 1
            get(0, 1, 0) = -128
            put(0, 1, 0, -129) = 1
            get(0, 1, 0) = 127
            put(0, 1, 0, 256) = 1
            get(0, 1, 0) = 0
            row(0, 3, 1) = 1
            put(0, 3, 0, 32767) = 1
            get(0, 3, 0) = 32767
            put(0, 3, 0, 32768) = 1
            get(0, 3, 0) = -32768
            put(0, 3, 0, -32769) = 1
            get(0, 3, 0) = 32767
            put(0, 3, 0, 65536) = 1
            get(0, 3, 0) = 0
            row(0, 4, 1) = 1
            put(0, 4, 0, 2147483647) = 1
            get(0, 4, 0) = 2147483647
            put(0, 4, 0, 2147483648) = 1
            get(0, 4, 0) = -2147483648
            put(0, 4, 0, -2147483649) = 1
            get(0, 4, 0) = 2147483647
            put(0, 4, 0, 4294967296) = 1
            get(0, 4, 0) = 0
            row(0, 5, 1) = 1
            put(0, 5, 0, 0x8000000000000000) = 1
            get(0, 5, 0) = 0x8000000000000000
            put(0, 5, 0, 0x7FFFFFFFFFFFFFFF) = 1
            get(0, 5, 0) = 0x7FFFFFFFFFFFFFFF
            """);
        Script.run("letters 0 to 65535", """
            row(0, 2, 1) = 1
            get(0, 2, 0) = 0
            put(0, 2, 0, 65535) = 1
            get(0, 2, 0) = 65535
            put(0, 2, 0, 65536) = 1
            get(0, 2, 0) = 0
            put(0, 2, 0, -1) = 1
            get(0, 2, 0) = 65535
            put(0, 2, 0, 32768) = 1
            get(0, 2, 0) = 32768
            """);
    }

    private static void bitsOfReals() {
        Script.run("of a float its 32 bits with their sign; no number: 7FC00000", """
            row(0, 6, 1) = 1
            put(0, 6, 0, 0x7FFFFFFF) = 1
            get(0, 6, 0) = 0x7FC00000
            put(0, 6, 0, 0x7F800001) = 1
            get(0, 6, 0) = 0x7FC00000
            put(0, 6, 0, 0xFFFFFFFF) = 1
            get(0, 6, 0) = 0x7FC00000
            put(0, 6, 0, 0xFF800001) = 1
            get(0, 6, 0) = 0x7FC00000
            put(0, 6, 0, -1) = 1
            get(0, 6, 0) = 0x7FC00000
            # endless ones are numbers
            put(0, 6, 0, 0x7F800000) = 1
            get(0, 6, 0) = 0x7F800000
            put(0, 6, 0, 0xFF800000) = 1
            get(0, 6, 0) = 0xFFFFFFFFFF800000
            put(0, 6, 0, 0x7F7FFFFF) = 1
            get(0, 6, 0) = 0x7F7FFFFF
            put(0, 6, 0, 0x80000000) = 1
            get(0, 6, 0) = 0xFFFFFFFF80000000
            put(0, 6, 0, 0xFFFFFFFF00000001) = 1
            get(0, 6, 0) = 1
            """);
        Script.run("of a double its 64; no number: 7FF8000000000000", """
            row(0, 7, 1) = 1
            put(0, 7, 0, 0x7FFFFFFFFFFFFFFF) = 1
            get(0, 7, 0) = 0x7FF8000000000000
            put(0, 7, 0, 0x7FF0000000000001) = 1
            get(0, 7, 0) = 0x7FF8000000000000
            put(0, 7, 0, 0xFFF0000000000001) = 1
            get(0, 7, 0) = 0x7FF8000000000000
            put(0, 7, 0, -1) = 1
            get(0, 7, 0) = 0x7FF8000000000000
            put(0, 7, 0, 0x7FF0000000000000) = 1
            get(0, 7, 0) = 0x7FF0000000000000
            put(0, 7, 0, 0xFFF0000000000000) = 1
            get(0, 7, 0) = 0xFFF0000000000000
            put(0, 7, 0, 0x7FEFFFFFFFFFFFFF) = 1
            get(0, 7, 0) = 0x7FEFFFFFFFFFFFFF
            put(0, 7, 0, 0x8000000000000000) = 1
            get(0, 7, 0) = 0x8000000000000000
            put(0, 7, 0, 1) = 1
            get(0, 7, 0) = 1
            """);
        Script.run("BAYS of doubles and FIELDS of a CARD tell no number so, too", """
            grid(0, 10, 1, 1, false) = 1
            setBed(0, 10, 0, 0, 0xFFF0000000000001) = 1
            bed(0, 10, 0, 0) = 0x7FF8000000000000
            grid(1, 8, 1, 1, false) = 1
            setBed(1, 8, 0, 0, 32768) = 1
            bed(1, 8, 0, 0) = -32768
            grid(2, 9, 1, 1, false) = 1
            setBed(2, 9, 0, 0, 2147483648) = 1
            bed(2, 9, 0, 0) = -2147483648
            card(3) = 0
            setField(3, 6, 0xFF800001) = 1
            field(3, 6) = 0x7FC00000
            setField(3, 6, 0xFF800000) = 1
            field(3, 6) = 0xFFFFFFFFFF800000
            setField(3, 7, 0x7FF0000000000001) = 1
            field(3, 7) = 0x7FF8000000000000
            """);
    }

    private static void lengths() {
        Script.run("A ROW has 0 to 40 CELLS of a LANE (false, 0 at first)", """
            row(0, 0, 0) = 1
            size(0, 0) = 0
            size(0, 1) = 0
            get(0, 0, 0) = 0
            fault() = 2
            row(1, 7, 40) = 1
            size(1, 0) = 40
            size(1, 1) = 0
            get(1, 7, 0) = 0
            get(1, 7, 39) = 0
            told(2) = 1
            get(1, 7, 40) = 0
            told(2) = 2
            row(1, 7, 41) = BAD
            row(1, 7, 2147483647) = BAD
            row(1, 7, -1) = -13
            row(1, 7, -2147483648) = -13
            size(1, 0) = 40
            told(1) = 2
            """);
        Script.run("a new ROW, as long and of the LANE as the one that the BIN held", """
            row(0, 4, 2) = 1
            put(0, 4, 1, 5) = 1
            share(1, 0) = 1
            row(0, 4, 2) = 1
            get(0, 4, 1) = 0
            get(1, 4, 1) = 5
            put(0, 4, 0, 6) = 1
            get(1, 4, 0) = 0
            alike(0, 1) = 0
            told(1) = 2
            """);
        Script.run("a GRID's BAYS, each a new ROW", """
            grid(0, 9, 3, 2, false) = 1
            setBed(0, 9, 1, 0, 5) = 1
            bed(0, 9, 0, 0) = 0
            bed(0, 9, 1, 0) = 5
            bed(0, 9, 2, 0) = 0
            share(1, 0) = 1
            grid(0, 9, 3, 2, false) = 1
            bed(0, 9, 1, 0) = 0
            bed(1, 9, 1, 0) = 5
            told(1) = 8
            """);
        Script.run("new STOREYS, a new TRAY, a new CARD where the BIN held one", """
            grid(9, 9, 1, 1, false) = 1
            storeys(0, 1) = 1
            set(0, 0, 9) = 1
            share(1, 0) = 1
            storeys(0, 1) = 1
            size(0, 1) = 1
            size(1, 1) = 0
            plant(9, 0, 1, 1, 0, 0) = 0
            tray(2, 12, 1) = 1
            set(2, 0, 9) = 1
            share(3, 2) = 1
            tray(2, 12, 1) = 1
            size(2, 1) = 1
            size(3, 1) = 0
            card(4) = 0
            setField(4, 4, 7) = 1
            share(5, 4) = 1
            card(4) = 1
            field(4, 4) = 0
            field(5, 4) = 7
            """);
        Script.run("A GRID has 0 to 10 BAYS, each a ROW, or not built", """
            grid(0, 8, 0, 40, false) = 1
            size(0, 0) = 0
            size(0, 1) = 0
            told(1) = 1
            grid(0, 9, 10, 0, false) = 1
            size(0, 0) = 10
            size(0, 1) = 0
            told(1) = 12
            lift(1, 0, 9) = 1
            size(1, 0) = 0
            grid(0, 10, 10, 40, true) = 1
            size(0, 0) = 10
            size(0, 1) = 10
            told(1) = 13
            # FORMS of GRIDS are 8 to 10
            grid(0, 7, 1, 1, false) = BAD
            grid(0, 11, 1, 1, false) = BAD
            grid(0, 10, 11, 0, true) = BAD
            grid(0, 10, 11, 0, false) = BAD
            grid(0, 10, 0, 41, false) = BAD
            grid(0, 10, 0, 41, true) = BAD
            grid(0, 10, -1, 0, true) = -13
            grid(0, 10, -1, 0, false) = -13
            size(0, 0) = 10
            told(1) = 13
            """);
        Script.run("BAYS of 40 CELLS", """
            grid(0, 8, 10, 40, false) = 1
            setBed(0, 8, 9, 39, 4) = 1
            bed(0, 8, 9, 39) = 4
            bed(0, 8, 0, 39) = 0
            told(2) = 0
            bed(0, 8, 9, 40) = 0
            fault() = 2
            lift(1, 0, 0) = 1
            size(1, 0) = 40
            """);
        Script.run("grid: SIZE: a, or n (not bare), is below 0", """
            grid(0, 9, 0, -1, false) = -13
            grid(0, 9, 3, -2147483648, false) = -13
            form(0) = NONE
            grid(0, 9, 3, -1, true) = 1
            size(0, 1) = 3
            grid(1, 9, 0, -2147483648, true) = 1
            size(1, 0) = 0
            grid(2, 9, -1, -1, true) = -13
            grid(2, 9, -2147483648, 0, true) = -13
            form(2) = NONE
            told(1) = 2
            """);
        Script.run("STOREYS have 0 to 4 places, NOTHING in each", """
            storeys(0, 0) = 1
            size(0, 0) = 0
            storeys(1, 4) = 1
            size(1, 0) = 4
            size(1, 1) = 4
            storeys(1, 5) = BAD
            storeys(1, 2147483647) = BAD
            storeys(1, -1) = -13
            storeys(1, -2147483648) = -13
            size(1, 0) = 4
            told(1) = 2
            """);
        Script.run("A BIN gets a new TRAY of FORM 12 to 15 with n places: BAD above 8", """
            tray(0, 12, 0) = 1
            size(0, 0) = 0
            tray(1, 15, 8) = 1
            size(1, 0) = 8
            size(1, 1) = 8
            tray(1, 15, 9) = BAD
            tray(1, 11, 8) = BAD
            tray(1, 16, 8) = BAD
            tray(1, 14, -1) = -13
            tray(1, 14, -2147483648) = -13
            form(1) = 15
            told(1) = 2
            """);
        Script.run("size: how many places are NOTHING (of a ROW 0)", """
            row(0, 4, 5) = 1
            size(0, 0) = 5
            size(0, 1) = 0
            size(0, -1) = BAD
            size(0, 2) = BAD
            size(-1, 0) = BAD
            size(16, 0) = BAD
            plant(1, 0, 1, 1, 0, 0) = 0
            size(1, 0) = -14
            size(1, 1) = -14
            card(2) = 0
            size(2, 0) = -14
            size(2, 1) = -14
            size(3, 0) = -11
            size(3, 1) = -11
            """);
    }

    private static void takenFor() {
        Script.run("A THING is TAKEN FOR a FORM: NOTHING goes for each, another one is a CAST", """
            row(0, 4, 1) = 1
            get(0, 5, 0) = 0
            fault() = 4
            get(0, 5, 9) = 0
            fault() = 4
            get(1, 5, 9) = 0
            fault() = 1
            get(0, 4, 9) = 0
            fault() = 2
            get(0, 4, -1) = 0
            fault() = 2
            get(0, 4, 2147483647) = 0
            get(0, 4, -2147483648) = 0
            told(2) = 7
            grid(2, 9, 1, 1, false) = 1
            card(3) = 0
            plant(4, 0, 0, 0, 0, 0) = 0
            put(2, 4, 0, 1) = -14
            put(3, 4, 0, 1) = -14
            put(4, 4, 0, 1) = -14
            put(5, 4, 0, 1) = -11
            put(0, 4, 1, 1) = -12
            put(0, 4, -1, 1) = -12
            put(0, 4, 0, 1) = 1
            """);
        Script.run("A ROW has the FORM of its LANE alone", """
            row(0, 3, 1) = 1
            put(0, 4, 0, 1) = -14
            put(0, 2, 0, 1) = -14
            put(0, 1, 0, 1) = -14
            row(0, 6, 1) = 1
            put(0, 7, 0, 1) = -14
            row(0, 0, 1) = 1
            put(0, 1, 0, 1) = -14
            put(0, 0, 0, 1) = 1
            """);
        Script.run("As PLACES: NOTHING is NULL, ROWS, PLANTS, CARDS are a CAST, and of a TRAY, STOREYS, a GRID all go", """
            row(0, 4, 1) = 1
            plant(1, 0, 0, 0, 0, 0) = 0
            card(2) = 0
            set(0, 5, 15) = -14
            set(1, 5, 15) = -14
            set(2, 5, 15) = -14
            set(3, 5, 15) = -11
            grid(4, 8, 1, 1, true) = 1
            grid(5, 9, 1, 1, true) = 1
            grid(6, 10, 1, 1, true) = 1
            storeys(7, 1) = 1
            tray(8, 12, 1) = 1
            tray(9, 13, 1) = 1
            tray(10, 14, 1) = 1
            tray(11, 15, 1) = 1
            set(4, 0, 15) = 1
            set(5, 0, 15) = 1
            set(6, 0, 15) = 1
            set(7, 0, 15) = 1
            set(8, 0, 15) = 1
            set(9, 0, 15) = 1
            set(10, 0, 15) = 1
            set(11, 0, 15) = 1
            set(4, 1, 15) = -12
            set(11, 1, 15) = -12
            set(11, -1, 15) = -12
            """);
    }

    private static void beds() {
        Script.run("bed: CAST, NULL, INDEX, NULL: not built, INDEX", """
            grid(0, 9, 2, 2, false) = 1
            grid(1, 9, 2, 2, true) = 1
            bed(0, 8, 9, 9) = 0
            fault() = 4
            bed(0, 10, 9, 9) = 0
            fault() = 4
            bed(2, 9, 9, 9) = 0
            fault() = 1
            bed(0, 9, 2, 9) = 0
            fault() = 2
            bed(0, 9, -1, 0) = 0
            fault() = 2
            bed(1, 9, 0, 9) = 0
            fault() = 1
            bed(1, 9, 2, 9) = 0
            fault() = 2
            bed(0, 9, 0, 2) = 0
            fault() = 2
            told(2) = 8
            bed(0, 9, 0, -1) = 0
            bed(0, 9, 1, 2147483647) = 0
            told(2) = 10
            bed(0, 9, 1, 1) = 0
            told(2) = 10
            setBed(0, 8, 9, 9, 1) = -14
            setBed(2, 9, 9, 9, 1) = -11
            setBed(0, 9, 2, 9, 1) = -12
            setBed(0, 9, -1, 0, 1) = -12
            setBed(1, 9, 0, 9, 1) = -11
            setBed(1, 9, 1, 0, 1) = -11
            setBed(0, 9, 0, 2, 1) = -12
            setBed(0, 9, 0, -1, 1) = -12
            setBed(0, 9, 1, 1, 1) = 1
            bed(0, 9, 1, 1) = 1
            """);
        Script.run("bed of FORM 8 to 10 alone", """
            storeys(0, 1) = 1
            bed(0, 7, 0, 0) = 0
            bed(0, 11, 0, 0) = 0
            setBed(0, 7, 0, 0, 1) = BAD
            setBed(0, 11, 0, 0, 1) = BAD
            setBed(-1, 8, 0, 0, 1) = BAD
            setBed(16, 10, 0, 0, 1) = BAD
            bed(-1, 8, 0, 0) = 0
            bed(16, 10, 0, 0) = 0
            told(2) = 0
            """);
        Script.run("A ROW may stand in several", """
            row(0, 3, 2) = 1
            grid(1, 8, 2, 0, true) = 1
            grid(2, 8, 1, 0, true) = 1
            set(1, 0, 0) = 1
            set(1, 1, 0) = 1
            set(2, 0, 0) = 1
            setBed(1, 8, 0, 1, -3) = 1
            bed(1, 8, 1, 1) = -3
            bed(2, 8, 0, 1) = -3
            get(0, 3, 1) = -3
            """);
        Script.run("BAYS of unlike lengths, none among them", """
            grid(0, 9, 2, 0, true) = 1
            row(1, 4, 0) = 1
            row(2, 4, 40) = 1
            set(0, 0, 1) = 1
            set(0, 1, 2) = 1
            setBed(0, 9, 0, 0, 1) = -12
            setBed(0, 9, 1, 39, 1) = 1
            setBed(0, 9, 1, 40, 1) = -12
            """);
    }

    private static void storeys() {
        Script.run("countUp: CAST, NULL, INDEX, NULL, INDEX, NULL, INDEX", """
            storeys(0, 2) = 1
            grid(1, 9, 2, 1, true) = 1
            row(2, 4, 1) = 1
            set(1, 0, 2) = 1
            set(0, 0, 1) = 1
            countUp(1, 9, 9, 9, true) = 0
            fault() = 4
            countUp(2, 9, 9, 9, true) = 0
            fault() = 4
            countUp(9, 9, 9, 9, true) = 0
            fault() = 1
            countUp(0, 2, 9, 9, true) = 0
            fault() = 2
            countUp(0, -1, 9, 9, true) = 0
            fault() = 2
            countUp(0, 1, 9, 9, true) = 0
            fault() = 1
            countUp(0, 0, 2, 9, true) = 0
            fault() = 2
            countUp(0, 0, -1, 9, true) = 0
            fault() = 2
            countUp(0, 0, 1, 9, true) = 0
            fault() = 1
            countUp(0, 0, 0, 1, true) = 0
            fault() = 2
            countUp(0, 0, 0, -1, true) = 0
            fault() = 2
            told(2) = 11
            countUp(16, 0, 0, 0, true) = 0
            countUp(-1, 0, 0, 0, true) = 0
            told(2) = 11
            get(2, 4, 0) = 0
            """);
        Script.run("countUp: counts once more (wraps)", """
            storeys(0, 4) = 1
            grid(1, 9, 1, 1, false) = 1
            set(0, 3, 1) = 1
            setBed(1, 9, 0, 0, 2147483646) = 1
            countUp(0, 3, 0, 0, false) = 2147483646
            countUp(0, 3, 0, 0, true) = -2147483648
            setBed(1, 9, 0, 0, 2147483647) = 1
            countUp(0, 3, 0, 0, false) = 2147483647
            bed(1, 9, 0, 0) = -2147483648
            setBed(1, 9, 0, 0, -1) = 1
            countUp(0, 3, 0, 0, true) = 0
            countUp(0, 3, 0, 0, false) = 0
            bed(1, 9, 0, 0) = 1
            told(2) = 0
            """);
        Script.run("STOREYS are places for GRIDS of ints, or NOTHING", """
            storeys(0, 1) = 1
            grid(1, 8, 1, 1, false) = 1
            grid(2, 9, 1, 1, false) = 1
            grid(3, 10, 1, 1, false) = 1
            row(4, 4, 1) = 1
            storeys(5, 1) = 1
            set(0, 0, 1) = -15
            set(0, 0, 3) = -15
            set(0, 0, 4) = -15
            set(0, 0, 5) = -15
            set(0, 0, 0) = -15
            size(0, 1) = 1
            set(0, 0, 2) = 1
            size(0, 1) = 0
            set(0, 0, 15) = 1
            size(0, 1) = 1
            """);
    }

    private static void places() {
        Script.run("STORE: what is put is not for it; NOTHING is for all; last of the FAULTS", """
            grid(0, 8, 1, 1, true) = 1
            grid(1, 10, 1, 1, true) = 1
            row(2, 3, 1) = 1
            row(3, 4, 1) = 1
            row(4, 7, 1) = 1
            row(5, 6, 1) = 1
            set(0, 0, 3) = -15
            set(0, 0, 2) = 1
            set(0, 0, 0) = -15
            set(1, 0, 5) = -15
            set(1, 0, 4) = 1
            set(1, 1, 3) = -12
            set(1, -1, 3) = -12
            set(2, 0, 2) = -14
            set(15, 0, 2) = -11
            fault() = 1
            set(1, 0, 15) = 1
            size(1, 1) = 1
            size(0, 1) = 0
            """);
        Script.run("TRAYS for PLANTS, TOMATOES, HERBS, all that THIRST: what each is for", """
            plant(0, 0, 0, 0, 0, 0) = 0
            plant(1, 1, 0, 0, 0, 0) = 1
            plant(2, 2, 0, 0, 15, 15) = 2
            plant(3, 3, 0, 0, 0, 0) = 3
            plant(4, 4, 0, 0, 0, 0) = 4
            plant(5, 5, 0, 0, 0, 0) = 5
            tray(6, 12, 1) = 1
            tray(7, 13, 1) = 1
            tray(8, 14, 1) = 1
            tray(9, 15, 1) = 1
            set(6, 0, 0) = 1
            set(6, 0, 1) = 1
            set(6, 0, 2) = 1
            set(6, 0, 3) = 1
            set(6, 0, 4) = -15
            set(6, 0, 5) = -15
            set(7, 0, 0) = -15
            set(7, 0, 1) = 1
            set(7, 0, 2) = 1
            set(7, 0, 3) = -15
            set(7, 0, 4) = -15
            set(7, 0, 5) = -15
            set(8, 0, 0) = 1
            set(8, 0, 1) = -15
            set(8, 0, 2) = -15
            set(8, 0, 3) = 1
            set(8, 0, 4) = -15
            set(8, 0, 5) = -15
            set(9, 0, 0) = -15
            set(9, 0, 1) = 1
            set(9, 0, 2) = 1
            set(9, 0, 3) = 1
            set(9, 0, 4) = -15
            set(9, 0, 5) = 1
            card(10) = 0
            set(6, 0, 10) = -15
            set(6, 0, 6) = -15
            set(6, 0, 15) = 1
            """);
        Script.run("lift: CAST, NULL, INDEX; the BIN stays", """
            row(0, 4, 1) = 1
            storeys(1, 1) = 1
            row(2, 5, 1) = 1
            lift(2, 0, 0) = -14
            lift(2, 9, 0) = -11
            lift(2, 1, 1) = -12
            lift(2, 1, -1) = -12
            lift(2, 1, 2147483647) = -12
            form(2) = 5
            lift(-1, 1, 0) = BAD
            lift(16, 1, 0) = BAD
            lift(2, -1, 0) = BAD
            lift(2, 16, 0) = BAD
            form(2) = 5
            lift(2, 1, 0) = 1
            form(2) = NONE
            """);
        Script.run("liftAs: TAKEN FOR a FORM (0 to 17; 12 to 15: TRAYS themselves)", """
            tray(0, 12, 2) = 1
            plant(1, 1, 0, 0, 0, 0) = 0
            set(0, 0, 1) = 1
            row(2, 4, 1) = 1
            liftAs(2, 0, 0, 12) = -14
            liftAs(2, 0, 0, 13) = -14
            liftAs(2, 0, 0, 14) = -14
            liftAs(2, 0, 0, 15) = -14
            liftAs(2, 0, 0, 0) = -14
            liftAs(2, 0, 0, 17) = -14
            liftAs(2, 0, 0, 18) = BAD
            liftAs(2, 0, 0, -1) = BAD
            liftAs(2, 0, 2, 16) = -12
            liftAs(2, 0, -1, 16) = -12
            liftAs(2, 9, 0, 16) = -11
            liftAs(2, 2, 0, 16) = -14
            form(2) = 4
            liftAs(2, 0, 1, 0) = 1
            form(2) = NONE
            liftAs(2, 0, 0, 16) = 1
            alike(2, 1) = 2
            liftAs(2, 0, 1, 17) = 1
            form(2) = NONE
            """);
    }

    private static void shiftsOfCells() {
        Script.run("came: 0 before", """
            came() = 0
            shift(16, 0, 0, 0, 0) = BAD
            came() = 0
            """);
        Script.run("shift: NULL, then STORE, then INDEX: i, j, n below 0 or beyond", """
            row(0, 4, 3) = 1
            row(1, 4, 2) = 1
            row(2, 5, 2) = 1
            plant(3, 0, 0, 0, 0, 0) = 0
            card(4) = 0
            shift(9, -1, 0, -1, -1) = -11
            shift(0, -1, 9, -1, -1) = -11
            shift(3, -1, 9, -1, -1) = -11
            shift(0, -1, 2, -1, -1) = -15
            shift(3, -1, 3, -1, -1) = -15
            shift(4, -1, 0, -1, -1) = -15
            shift(0, -1, 1, 0, 1) = -12
            shift(0, 0, 1, -1, 1) = -12
            shift(0, 0, 1, 0, -1) = -12
            shift(0, 4, 1, 0, 0) = -12
            shift(0, 0, 1, 3, 0) = -12
            shift(0, 0, 1, 0, 3) = -12
            shift(0, 2, 1, 0, 2) = -12
            shift(0, 0, 1, 1, 2) = -12
            shift(0, 2147483647, 1, 0, 2147483647) = -12
            shift(0, 1, 1, 1, 2147483647) = -12
            shift(0, -2147483648, 1, 0, 1) = -12
            shift(0, 0, 1, 0, -2147483648) = -12
            came() = 0
            shift(0, 3, 1, 2, 0) = 0
            shift(0, 1, 1, 0, 2) = 2
            came() = 2
            """);
        Script.run("shift: as if all were taken ahead", """
            row(0, 5, 4) = 1
            put(0, 5, 0, 1) = 1
            put(0, 5, 1, 2) = 1
            put(0, 5, 2, 3) = 1
            put(0, 5, 3, 4) = 1
            shift(0, 0, 0, 1, 3) = 3
            get(0, 5, 1) = 1
            get(0, 5, 2) = 2
            get(0, 5, 3) = 3
            shift(0, 1, 0, 0, 3) = 3
            get(0, 5, 0) = 1
            get(0, 5, 1) = 2
            get(0, 5, 2) = 3
            get(0, 5, 3) = 3
            shift(0, 0, 0, 0, 4) = 4
            get(0, 5, 0) = 1
            get(0, 5, 3) = 3
            """);
        Script.run("came: by the latest shift() that was not BAD", """
            row(0, 4, 3) = 1
            shift(0, 0, 0, 1, 2) = 2
            shift(0, 0, 16, 1, 2) = BAD
            shift(-1, 0, 0, 1, 2) = BAD
            came() = 2
            shift(0, 0, 0, 2, 2) = -12
            came() = 0
            shift(0, 0, 0, 1, 2) = 2
            shift(0, 0, 9, 1, 2) = -11
            came() = 0
            shift(0, 0, 0, 1, 2) = 2
            card(1) = 0
            shift(0, 0, 1, 1, 2) = -15
            came() = 0
            """);
    }

    private static void shiftsOfPlaces() {
        Script.run("shift: what the other is not for is a STORE: those ahead of it have come", """
            tray(0, 12, 3) = 1
            plant(1, 1, 0, 0, 0, 0) = 0
            plant(2, 0, 0, 0, 0, 0) = 1
            set(0, 0, 1) = 1
            set(0, 1, 2) = 1
            set(0, 2, 1) = 1
            tray(3, 13, 3) = 1
            plant(4, 2, 0, 0, 15, 15) = 2
            set(3, 2, 4) = 1
            shift(0, 0, 3, 0, 3) = -15
            came() = 1
            fault() = 5
            lift(5, 3, 0) = 1
            alike(5, 1) = 2
            lift(5, 3, 1) = 1
            form(5) = NONE
            # what lies behind stays
            lift(5, 3, 2) = 1
            alike(5, 4) = 2
            # the very first one is not for it: none has come
            shift(0, 1, 3, 0, 2) = -15
            came() = 0
            # none is asked for: none is in the way
            shift(0, 1, 3, 0, 0) = 0
            came() = 0
            shift(0, 0, 3, 0, 1) = 1
            came() = 1
            told(2) = 2
            # INDEX ahead of what is not for it
            shift(0, 1, 3, 1, 3) = -12
            shift(0, 1, 3, 2, 2) = -12
            came() = 0
            """);
        Script.run("shift: of PLACES with themselves, as if all were taken ahead", """
            grid(0, 9, 3, 1, false) = 1
            lift(1, 0, 0) = 1
            lift(2, 0, 1) = 1
            shift(0, 0, 0, 1, 2) = 2
            lift(3, 0, 1) = 1
            alike(3, 1) = 2
            lift(3, 0, 2) = 1
            alike(3, 2) = 2
            shift(0, 1, 0, 0, 2) = 2
            lift(3, 0, 0) = 1
            alike(3, 1) = 2
            lift(3, 0, 1) = 1
            alike(3, 2) = 2
            """);
        Script.run("shift: between PLACES of two FORMS NOTHING goes, one is a ROW and the other none of its LANE is a STORE", """
            grid(0, 8, 2, 1, true) = 1
            grid(1, 9, 2, 1, false) = 1
            storeys(2, 2) = 1
            tray(3, 15, 2) = 1
            row(4, 3, 2) = 1
            shift(0, 0, 1, 0, 1) = 1
            size(1, 1) = 1
            shift(0, 0, 2, 0, 2) = 2
            shift(2, 0, 3, 0, 2) = 2
            shift(3, 0, 1, 0, 2) = 2
            size(1, 1) = 2
            told(2) = 0
            shift(4, 0, 0, 0, 0) = -15
            shift(0, 0, 4, 0, 0) = -15
            shift(4, 0, 1, 0, 0) = -15
            row(5, 2, 2) = 1
            shift(4, 0, 5, 0, 0) = -15
            shift(4, 0, 4, 0, 0) = 0
            told(2) = 4
            """);
    }

    private static void shiftsOfOthers() {
        Script.run("shift: STORE: either is no ROW and no PLACES", """
            grid(0, 9, 2, 1, true) = 1
            tray(1, 12, 2) = 1
            row(2, 4, 2) = 1
            card(3) = 0
            plant(4, 2, 0, 0, 15, 15) = 0
            shift(0, 0, 3, 0, 1) = -15
            shift(3, 0, 0, 0, 1) = -15
            shift(1, 0, 4, 0, 1) = -15
            shift(4, 0, 1, 0, 1) = -15
            shift(3, 0, 3, 1, 1) = -15
            shift(4, 0, 4, 1, 1) = -15
            shift(3, 0, 4, 0, 0) = -15
            shift(2, 0, 3, 0, 1) = -15
            shift(3, 0, 2, 0, 1) = -15
            shift(2, 0, 4, 0, 0) = -15
            shift(4, 0, 2, 0, 0) = -15
            came() = 0
            told(2) = 11
            fault() = 5
            # NULL ahead of it
            shift(3, 0, 15, 0, 1) = -11
            shift(15, 0, 3, 0, 1) = -11
            shift(15, 0, 15, 0, 0) = -11
            """);
    }

    private static void copies() {
        Script.run("copy: also NOTHING", """
            row(0, 4, 1) = 1
            copy(0, 15, true) = 1
            form(0) = NONE
            copy(0, 14, false) = 1
            told(1) = 1
            copy(16, 0, true) = BAD
            copy(-1, 0, true) = BAD
            copy(0, 16, true) = BAD
            copy(0, -1, true) = BAD
            told(2) = 0
            """);
        Script.run("copy: empty ones, and places that are NOTHING", """
            row(0, 4, 0) = 1
            copy(1, 0, true) = 1
            size(1, 0) = 0
            alike(0, 1) = 1
            grid(0, 9, 0, 0, false) = 1
            copy(1, 0, true) = 1
            size(1, 0) = 0
            grid(0, 9, 2, 0, true) = 1
            copy(1, 0, true) = 1
            size(1, 1) = 2
            storeys(0, 3) = 1
            copy(1, 0, true) = 1
            size(1, 0) = 3
            size(1, 1) = 3
            told(1) = 8
            """);
        Script.run("copy: a PLANT itself, a CARD of its own, with the next NUMBER", """
            plant(0, 0, 0, 0, 0, 0) = 0
            copy(1, 0, true) = 1
            alike(0, 1) = 2
            copy(1, 0, false) = 1
            alike(0, 1) = 2
            told(1) = 1
            card(2) = 0
            copy(3, 2, true) = 1
            alike(3, 2) = 1
            led(3, 2) = 1
            card(4) = 2
            told(1) = 4
            plant(5, 0, 0, 0, 0, 0) = 1
            """);
        Script.run("copy: a CARD with the same leads, deep or not", """
            card(0) = 0
            card(1) = 1
            plant(2, 0, 3, 3, 0, 0) = 0
            lead(0, 0, 1) = 1
            lead(0, 1, 2) = 1
            lead(1, 0, 0) = 1
            copy(3, 0, true) = 1
            follow(4, 3, 0) = 1
            alike(4, 1) = 2
            follow(4, 3, 1) = 1
            alike(4, 2) = 2
            copy(5, 0, false) = 1
            follow(4, 5, 0) = 1
            alike(4, 1) = 2
            follow(4, 5, 1) = 1
            alike(4, 2) = 2
            # the copy is none of the round: 2, 1, 0, and 1 again
            led(3, 0) = 3
            led(3, 1) = 1
            led(0, 0) = 2
            # one that leads to itself: its copy leads to it
            lead(1, 0, 1) = 1
            copy(6, 1, true) = 1
            follow(7, 6, 0) = 1
            alike(7, 1) = 2
            alike(7, 6) = 1
            led(6, 0) = 2
            """);
        Script.run("copy: deep, each place one of its own, though the same ROW stands in two", """
            row(0, 4, 1) = 1
            grid(1, 9, 2, 0, true) = 1
            set(1, 0, 0) = 1
            set(1, 1, 0) = 1
            storeys(2, 2) = 1
            set(2, 0, 1) = 1
            set(2, 1, 1) = 1
            copy(3, 2, true) = 1
            # STOREYS, two GRIDS, four ROWS
            told(1) = 10
            countUp(3, 0, 0, 0, true) = 1
            countUp(3, 0, 1, 0, true) = 1
            countUp(3, 1, 0, 0, true) = 1
            countUp(3, 1, 1, 0, true) = 1
            get(0, 4, 0) = 0
            # shallow: the same GRIDS
            copy(3, 2, false) = 1
            told(1) = 11
            countUp(3, 0, 0, 0, true) = 1
            countUp(3, 1, 1, 0, true) = 2
            get(0, 4, 0) = 2
            # into the BIN that it is copied from
            copy(2, 2, true) = 1
            countUp(2, 0, 0, 0, true) = 3
            get(0, 4, 0) = 2
            """);
    }

    private static void alikes() {
        Script.run("alike: 2 the same (NOTHING, too), 1 alike, else 0", """
            alike(0, 15) = 2
            alike(0, 0) = 2
            row(0, 4, 0) = 1
            alike(0, 15) = 0
            alike(15, 0) = 0
            row(1, 4, 0) = 1
            alike(0, 1) = 1
            row(1, 5, 0) = 1
            alike(0, 1) = 0
            row(1, 4, 1) = 1
            alike(0, 1) = 0
            share(1, 0) = 1
            alike(0, 1) = 2
            alike(-1, 0) = BAD
            alike(0, 16) = BAD
            """);
        Script.run("alike: as long, places alike or both NOTHING", """
            grid(0, 9, 1, 1, false) = 1
            grid(1, 9, 2, 1, false) = 1
            alike(0, 1) = 0
            grid(1, 9, 1, 2, false) = 1
            alike(0, 1) = 0
            grid(1, 9, 1, 1, true) = 1
            alike(0, 1) = 0
            alike(1, 0) = 0
            grid(2, 9, 1, 0, true) = 1
            alike(1, 2) = 1
            grid(3, 8, 1, 0, true) = 1
            alike(1, 3) = 0
            storeys(4, 2) = 1
            storeys(5, 2) = 1
            set(4, 0, 0) = 1
            alike(4, 5) = 0
            copy(6, 0, true) = 1
            set(5, 0, 6) = 1
            alike(4, 5) = 1
            set(5, 0, 0) = 1
            alike(4, 5) = 1
            set(5, 0, 15) = 1
            set(5, 1, 0) = 1
            alike(4, 5) = 0
            tray(7, 12, 0) = 1
            tray(8, 13, 0) = 1
            alike(7, 8) = 0
            """);
        Script.run("alike: CELLS with the same BITS", """
            row(0, 7, 1) = 1
            row(1, 7, 1) = 1
            put(0, 7, 0, 0x7FF0000000000001) = 1
            put(1, 7, 0, 0xFFFFFFFFFFFFFFFF) = 1
            alike(0, 1) = 1
            put(0, 7, 0, d0.0) = 1
            put(1, 7, 0, d-0.0) = 1
            alike(0, 1) = 0
            put(0, 7, 0, d-0.0) = 1
            alike(0, 1) = 1
            row(2, 6, 1) = 1
            row(3, 6, 1) = 1
            put(2, 6, 0, f-0.0) = 1
            alike(2, 3) = 0
            put(2, 6, 0, 4294967296) = 1
            alike(2, 3) = 1
            """);
        Script.run("alike: CARDS with the same FIELDS and the same leads", """
            card(0) = 0
            card(1) = 1
            alike(0, 1) = 1
            setField(0, 0, 1) = 1
            alike(0, 1) = 0
            setField(1, 0, 3) = 1
            alike(0, 1) = 1
            setField(0, 7, d-0.0) = 1
            alike(0, 1) = 0
            setField(1, 7, d-0.0) = 1
            plant(2, 0, 1, 1, 0, 0) = 0
            plant(3, 0, 1, 1, 0, 0) = 1
            alike(2, 3) = 0
            lead(0, 1, 2) = 1
            lead(1, 1, 3) = 1
            alike(0, 1) = 0
            lead(1, 1, 2) = 1
            alike(0, 1) = 1
            # leads that are alike are not the same
            card(4) = 2
            card(5) = 3
            alike(4, 5) = 1
            lead(0, 0, 4) = 1
            lead(1, 0, 5) = 1
            alike(0, 1) = 0
            lead(1, 0, 4) = 1
            alike(0, 1) = 1
            """);
    }

    private static void plants() {
        Script.run("KINDS 0 to 5; of others than GRAFTS p and q are not looked at", """
            plant(0, -1, 0, 0, 0, 0) = BAD
            plant(0, 6, 0, 0, 0, 0) = BAD
            plant(-1, 0, 0, 0, 0, 0) = BAD
            plant(16, 0, 0, 0, 0, 0) = BAD
            row(1, 4, 1) = 1
            plant(0, 0, 0, 0, -1, 16) = 0
            plant(0, 1, 0, 0, 16, -1) = 1
            plant(0, 3, 0, 0, 1, 1) = 2
            plant(0, 4, 0, 0, 2147483647, 0) = 3
            plant(0, 5, 0, 0, 0, -2147483648) = 4
            plant(0, 2, 0, 0, -1, 0) = BAD
            plant(0, 2, 0, 0, 16, 0) = BAD
            plant(0, 2, 0, 0, 0, -1) = BAD
            plant(0, 2, 0, 0, 0, 16) = BAD
            plant(0, 2, 0, 0, 1, 16) = BAD
            # a NUMBER that was refused is not gone
            plant(0, 2, 0, 0, 1, 0) = -14
            plant(0, 2, 0, 0, 0, 1) = -14
            told(1) = 6
            plant(0, 2, 0, 0, 0, 0) = 5
            told(1) = 7
            told(2) = 2
            """);
        Script.run("FULL: a DEPTH above 4; CAST ahead of it", """
            plant(0, 2, 0, 0, 15, 15) = 0
            ask(0, 7) = 1
            answer() = 1
            plant(1, 2, 0, 0, 15, 0) = 1
            plant(2, 2, 0, 0, 1, 15) = 2
            plant(3, 2, 0, 0, 0, 2) = 3
            ask(3, 7) = 1
            answer() = 4
            plant(4, 2, 0, 0, 3, 15) = FULL
            plant(4, 2, 0, 0, 15, 3) = FULL
            plant(4, 2, 0, 0, 3, 3) = FULL
            form(4) = NONE
            told(1) = 4
            card(5) = 0
            plant(4, 2, 0, 0, 3, 5) = -14
            plant(4, 2, 0, 0, 5, 3) = -14
            plant(4, 2, 0, 0, 2, 2) = 4
            ask(4, 7) = 1
            answer() = 4
            # a DEPTH is 0 of others
            plant(6, 5, 0, 0, 0, 0) = 5
            ask(6, 7) = 1
            answer() = 0
            plant(6, 2, 0, 0, 6, 6) = 6
            ask(6, 7) = 1
            answer() = 1
            """);
        Script.run("FIRST is what MARK told while the PLANT was made, its b being 0 yet", """
            plant(0, 2, 5, 100, 15, 15) = 0
            ask(0, 4) = 1
            answer() = 9
            trace(0) = NONE
            ask(0, 3) = 1
            answer() = 109
            trace(0) = 31
            trace(1) = NONE
            plant(1, 1, 5, 100, 0, 0) = 1
            ask(1, 4) = 1
            answer() = 7
            ask(1, 3) = 1
            answer() = 7
            plant(2, 5, 5, 100, 0, 0) = 2
            ask(2, 4) = 1
            answer() = 7
            """);
        Script.run("ask: 0 to 7; answer: 0 before, and what the latest one that was 1 told", """
            answer() = 0
            plant(0, 0, 41, 0, 0, 0) = 0
            ask(0, -1) = BAD
            ask(0, 8) = BAD
            ask(-1, 0) = BAD
            ask(16, 0) = BAD
            answer() = 0
            ask(0, 0) = 1
            answer() = 41
            ask(0, 1) = -14
            ask(15, 0) = -11
            ask(0, 8) = BAD
            answer() = 41
            ask(15, 7) = -11
            row(1, 4, 1) = 1
            ask(1, 5) = -14
            ask(1, 6) = -14
            answer() = 41
            ask(0, 6) = 1
            answer() = 0
            """);
    }

    private static void asks() {
        Script.run("ask: 5 NUMBER (0, 1, .. as they come), 6 KIND, 7 DEPTH", """
            plant(0, 5, 9, 9, 0, 0) = 0
            plant(1, 4, 9, 9, 0, 0) = 1
            plant(2, 3, 9, 9, 0, 0) = 2
            plant(3, 1, 9, 9, 0, 0) = 3
            plant(4, 0, 9, 9, 0, 0) = 4
            plant(5, 2, 9, 9, 0, 1) = 5
            ask(0, 5) = 1
            answer() = 0
            ask(0, 6) = 1
            answer() = 5
            ask(1, 5) = 1
            answer() = 1
            ask(1, 6) = 1
            answer() = 4
            ask(2, 6) = 1
            answer() = 3
            ask(3, 6) = 1
            answer() = 1
            ask(4, 5) = 1
            answer() = 4
            ask(4, 6) = 1
            answer() = 0
            ask(5, 5) = 1
            answer() = 5
            ask(5, 6) = 1
            answer() = 2
            ask(5, 7) = 1
            answer() = 1
            ask(4, 7) = 1
            answer() = 0
            # one PLANT in two BINS has one NUMBER
            share(6, 4) = 1
            ask(6, 5) = 1
            answer() = 4
            """);
    }

    private static void bodies() {
        Script.run("CAST (also: it does not THIRST, COST)", """
            plant(0, 0, 1, 1, 0, 0) = 0
            plant(1, 1, 1, 1, 0, 0) = 1
            plant(2, 2, 1, 1, 0, 1) = 2
            plant(3, 3, 1, 1, 0, 0) = 3
            plant(4, 4, 1, 1, 0, 0) = 4
            plant(5, 5, 1, 1, 0, 0) = 5
            ask(0, 1) = -14
            ask(1, 1) = 1
            ask(2, 1) = 1
            ask(3, 1) = 1
            ask(4, 1) = -14
            ask(5, 1) = 1
            ask(0, 2) = 1
            ask(1, 2) = 1
            ask(2, 2) = 1
            ask(3, 2) = 1
            ask(4, 2) = 1
            ask(5, 2) = -14
            told(2) = 3
            # NOTHING is NULL, whatever is asked
            ask(15, 1) = -11
            ask(15, 2) = -11
            ask(15, 4) = -11
            """);
        Script.run("4 of CRESSES: what 1 gives, by b (ZERO)", """
            plant(0, 3, 0, 0, 0, 0) = 0
            ask(0, 0) = -16
            ask(0, 1) = -16
            trace(0) = 10
            trace(1) = 4
            trace(2) = 1
            trace(3) = NONE
            plant(0, 3, -7, 2, 0, 0) = 1
            ask(0, 0) = 1
            answer() = -3
            plant(0, 3, -2147483648, -1, 0, 0) = 2
            ask(0, 0) = 1
            answer() = -2147483648
            ask(0, 1) = 1
            answer() = -2147483645
            """);
        Script.run("20 lent to all: 5000 by a (ZERO)", """
            plant(0, 0, 0, 5, 0, 0) = 0
            ask(0, 2) = -16
            trace(0) = 20
            trace(1) = NONE
            plant(0, 4, 0, 5, 0, 0) = 1
            ask(0, 2) = -16
            plant(0, 1, 0, 5, 0, 0) = 2
            ask(0, 2) = -16
            plant(0, 2, 0, 5, 15, 15) = 3
            ask(0, 2) = -16
            trace(0) = 20
            trace(1) = NONE
            plant(0, 3, 0, 0, 0, 0) = 4
            ask(0, 2) = -16
            trace(0) = 21
            trace(1) = 20
            trace(2) = NONE
            plant(0, 0, 5001, 0, 0, 0) = 5
            ask(0, 2) = 1
            answer() = 0
            plant(0, 0, -5000, 0, 0, 0) = 6
            ask(0, 2) = 1
            answer() = -1
            plant(0, 0, -2147483648, 0, 0, 0) = 7
            ask(0, 2) = 1
            answer() = 0
            """);
        Script.run("3 of GRAFTS: the SIZES of both PARTS (NULL), the first one's first", """
            plant(0, 3, 1, 0, 0, 0) = 0
            plant(1, 0, 5, 0, 0, 0) = 1
            plant(2, 2, 1, 1, 15, 0) = 2
            ask(2, 0) = -11
            trace(0) = 3
            trace(1) = NONE
            plant(2, 2, 1, 1, 0, 15) = 3
            ask(2, 0) = -16
            trace(0) = 3
            trace(1) = 4
            trace(2) = 1
            trace(3) = NONE
            plant(2, 2, 1, 1, 1, 15) = 4
            ask(2, 0) = -11
            trace(0) = 3
            trace(1) = 1
            trace(2) = NONE
            # what is not asked of the PARTS goes on without them
            plant(2, 2, 2, 1, 15, 15) = 5
            ask(2, 2) = 1
            answer() = 2500
            ask(2, 3) = 1
            answer() = 10
            ask(2, 7) = 1
            answer() = 1
            ask(2, 1) = -11
            trace(0) = 11
            trace(1) = 10
            trace(2) = 3
            trace(3) = NONE
            """);
        Script.run("All wraps", """
            plant(0, 1, 1073741824, 0, 0, 0) = 0
            ask(0, 0) = 1
            answer() = -2147483648
            plant(0, 1, 1073741823, 1, 0, 0) = 1
            ask(0, 0) = 1
            answer() = 2147483647
            plant(1, 1, 1073741823, 2, 0, 0) = 2
            ask(1, 0) = 1
            answer() = -2147483648
            ask(1, 1) = 1
            answer() = 6
            ask(0, 1) = 1
            # 3 and 2147483647 is -2147483646; twice
            answer() = 4
            plant(2, 2, 0, 0, 0, 0) = 3
            ask(2, 0) = 1
            answer() = -2
            plant(3, 3, 2147483647, 1, 0, 0) = 4
            ask(3, 1) = 1
            answer() = -2147483646
            ask(3, 2) = 1
            answer() = -2147483646
            plant(4, 2, 0, 2147483647, 0, 0) = 5
            ask(4, 3) = 1
            answer() = -2147483640
            plant(5, 5, -2147483648, 2147483647, 0, 0) = 6
            ask(5, 0) = 1
            answer() = -2147483648
            ask(5, 1) = 1
            answer() = 2147483647
            """);
    }

    private static void traces() {
        Script.run("THE TRACE of the latest ask() that was not BAD; NONE where it has no such number", """
            trace(0) = NONE
            trace(-1) = NONE
            plant(0, 1, 1, 1, 0, 0) = 0
            ask(0, 0) = 1
            trace(-1) = NONE
            trace(0) = 2
            trace(1) = 1
            trace(2) = NONE
            trace(2147483647) = NONE
            trace(-2147483648) = NONE
            ask(0, 9) = BAD
            ask(16, 0) = BAD
            trace(0) = 2
            # empty ahead of each ask, also of one with a FAULT
            ask(15, 0) = -11
            trace(0) = NONE
            ask(0, 0) = 1
            row(1, 4, 1) = 1
            ask(1, 0) = -14
            trace(0) = NONE
            ask(0, 0) = 1
            ask(0, 5) = 1
            trace(0) = NONE
            """);
        Script.run("THE TRACE of a RUN's ASK, too", """
            plant(0, 1, 1, 1, 0, 0) = 0
            plant(1, 4, 1, 1, 0, 0) = 1
            ask(0, 0) = 1
            step(0, 6, 0, 3, 0) = 0
            run(0) = 0
            stock(0) = 7
            trace(0) = 30
            trace(1) = NONE
            drop(0) = 1
            step(0, 6, 1, 1, 0) = 0
            run(0) = -14
            trace(0) = NONE
            """);
        Script.run("the longest THE TRACE can be: a GRAFT of DEPTH 4 all through", """
            plant(0, 3, 6, 2, 0, 0) = 0
            plant(1, 2, 1, 0, 0, 0) = 1
            plant(2, 2, 1, 0, 1, 1) = 2
            plant(3, 2, 1, 0, 2, 2) = 3
            plant(4, 2, 1, 0, 3, 3) = 4
            ask(4, 0) = 1
            # 16 CRESSES of 3, and 15 GRAFTS of 2
            answer() = 78
            trace(0) = 3
            trace(4) = 4
            trace(75) = 2
            trace(76) = 1
            trace(77) = NONE
            """);
    }

    private static void cards() {
        Script.run("A CARD has a NUMBER (0, 1, .. as they come), a FIELD of each LANE", """
            card(-1) = BAD
            card(16) = BAD
            card(0) = 0
            card(15) = 1
            field(0, 0) = 0
            field(0, 7) = 0
            field(0, -1) = 0
            field(0, 8) = 0
            field(-1, 0) = 0
            field(16, 0) = 0
            told(2) = 0
            setField(0, 0, 1) = 1
            setField(0, 7, d1.0) = 1
            setField(0, -1, 1) = BAD
            setField(0, 8, 1) = BAD
            setField(-1, 0, 1) = BAD
            setField(16, 0, 1) = BAD
            field(0, 0) = 1
            field(0, 1) = 0
            field(0, 6) = 0
            field(0, 7) = d1.0
            field(15, 0) = 0
            """);
        Script.run("field, setField: TAKEN FOR a CARD", """
            row(0, 4, 1) = 1
            plant(1, 0, 0, 0, 0, 0) = 0
            field(0, 4) = 0
            fault() = 4
            field(1, 4) = 0
            fault() = 4
            field(2, 4) = 0
            fault() = 1
            setField(0, 4, 1) = -14
            setField(1, 4, 1) = -14
            setField(2, 4, 1) = -11
            told(2) = 6
            """);
    }

    private static void leads() {
        Script.run("lead: NEXT (0), the LEAF (1): CAST (of either), NULL", """
            card(0) = 0
            plant(1, 5, 0, 0, 0, 0) = 0
            lead(0, -1, 0) = BAD
            lead(0, 2, 0) = BAD
            lead(-1, 0, 0) = BAD
            lead(16, 0, 0) = BAD
            lead(0, 0, -1) = BAD
            lead(0, 0, 16) = BAD
            lead(1, 0, 0) = -14
            lead(0, 0, 1) = -14
            lead(0, 1, 0) = -14
            lead(15, 0, 1) = -14
            lead(15, 1, 0) = -14
            lead(15, 0, 0) = -11
            lead(15, 1, 1) = -11
            lead(15, 0, 15) = -11
            lead(1, 0, 15) = -14
            # a VALVE is a PLANT here
            lead(0, 1, 1) = 1
            lead(0, 0, 15) = 1
            lead(0, 1, 15) = 1
            follow(2, 0, 1) = 1
            form(2) = NONE
            """);
        Script.run("follow: NEXT (0), the LEAF (1): CAST, NULL", """
            card(0) = 0
            row(1, 4, 1) = 1
            plant(2, 0, 0, 0, 0, 0) = 0
            lead(0, 1, 2) = 1
            lead(0, 0, 0) = 1
            follow(3, 0, -1) = BAD
            follow(3, 0, 2) = BAD
            follow(-1, 0, 0) = BAD
            follow(16, 0, 0) = BAD
            follow(3, -1, 0) = BAD
            follow(3, 16, 0) = BAD
            follow(1, 1, 0) = -14
            follow(1, 2, 0) = -14
            follow(1, 15, 0) = -11
            form(1) = 4
            follow(3, 0, 0) = 1
            alike(3, 0) = 2
            follow(3, 3, 1) = 1
            alike(3, 2) = 2
            """);
        Script.run("led: how many till the last one, or till one would come a second time", """
            card(0) = 0
            led(0, 0) = 1
            led(0, 1) = NONE
            led(0, 2) = 0
            led(0, -1) = BAD
            led(0, 3) = BAD
            led(-1, 0) = BAD
            led(16, 0) = BAD
            led(15, 0) = -11
            plant(14, 0, 0, 0, 0, 0) = 0
            led(14, 1) = -14
            # itself
            lead(0, 0, 0) = 1
            led(0, 0) = 1
            led(0, 1) = 0
            led(0, 2) = 0
            # a tail that runs into a ring
            card(1) = 1
            card(2) = 2
            card(3) = 3
            lead(0, 0, 1) = 1
            lead(1, 0, 2) = 1
            lead(2, 0, 3) = 1
            lead(3, 0, 1) = 1
            led(0, 0) = 4
            led(0, 1) = 1
            led(0, 2) = 3
            led(2, 0) = 3
            led(2, 1) = 2
            led(2, 2) = 1
            led(0, 1) = 1
            lead(3, 0, 15) = 1
            led(0, 0) = 4
            led(0, 1) = NONE
            led(0, 2) = 3
            led(3, 0) = 1
            """);
    }
}

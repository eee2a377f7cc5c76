/** Promises 1 to 20: bins, rows, grids, storeys. */
public final class RowsTest {
    public static void main(String[] args) {
        newObject();
        making();
        holding();
        cells();
        beds();
        places();
        shifting();
        copies();
        Script.end();
    }

    private static void newObject() {
        Script.run("promise 1, a new object", """
            form(0) = NONE
            form(15) = NONE
            came() = 0
            answer() = 0
            trace(0) = NONE
            drop(0) = 0
            drop(3) = 0
            formed(0) = NONE
            ran(0) = 0
            ran(1) = 0
            ran(2) = NONE
            ran(3) = 0
            ran(8) = 0
            stock(5) = 0
            valve(2, 0) = 0
            valve(2, 1) = 0
            laid(0) = NONE
            voted(0) = 0x7FF8000000000000
            voted(2) = 0x7FF8000000000000
            probe(8, 0) = 1
            probe(8, 1) = 0
            probe(8, 4) = 0
            unmark(0) = 0
            wish(0, 0) = -100001
            air(2, 0) = 20000
            air(2, 1) = 8000
            air(2, 2) = 0
            air(2, 3) = 0
            air(2, 4) = 0
            air(2, 5) = 0
            air(2, 10) = 0
            weather(0, 0) = 0
            weather(1, 0) = 10000
            weather(2, 0) = 5000
            weather(3, 0) = 0
            weather(4, 0) = 0
            salt(5, 2, 0) = 0
            worked(0, 0) = 0
            worked(1, 0) = 0
            worked(2, 0) = 0
            worked(3, 0) = 0
            pest(1, 3) = 0
            wait1() = 0
            open1() = 0
            octet(19, 63) = 0
            page(0, 0) = NONE
            told(0) = 0
            told(1) = 0
            told(2) = 0
            told(3) = 0
            told(4) = 0
            told(5) = 0
            told(6) = 0
            told(7) = 0
            told(8) = 0
            told(9) = 0
            told(10) = 0
            fault() = 0
            """);
    }

    private static void making() {
        Script.run("promise 2, row", """
            row(0, 0, 0) = 1
            size(0, 0) = 0
            row(15, 7, 40) = 1
            size(15, 0) = 40
            get(15, 7, 39) = 0
            row(-1, 0, 0) = BAD
            row(16, 0, 0) = BAD
            row(0, -1, 0) = BAD
            row(0, 8, 0) = BAD
            row(0, 0, 41) = BAD
            row(16, 0, -1) = BAD
            row(0, 4, -1) = -13
            row(0, 4, -2147483648) = -13
            fault() = 3
            # what has a fault leaves the bin and makes nothing
            form(0) = 0
            told(1) = 2
            told(2) = 2
            """);
        Script.run("promise 3, grid", """
            grid(0, 8, 10, 40, false) = 1
            told(1) = 11
            form(0) = 8
            size(0, 0) = 10
            size(0, 1) = 0
            grid(1, 10, 3, 5, true) = 1
            told(1) = 12
            size(1, 0) = 3
            size(1, 1) = 3
            grid(2, 9, 0, 0, false) = 1
            size(2, 0) = 0
            grid(2, 9, 2, -1, true) = 1
            size(2, 0) = 2
            grid(2, 9, 2, -1, false) = -13
            grid(2, 9, 0, -1, false) = -13
            grid(2, 9, -1, 0, true) = -13
            grid(2, 9, -1, 0, false) = -13
            size(2, 0) = 2
            told(1) = 14
            told(2) = 4
            grid(2, 9, 11, 0, false) = BAD
            grid(2, 9, 1, 41, false) = BAD
            grid(2, 9, 1, 41, true) = BAD
            grid(2, 7, 1, 1, false) = BAD
            grid(2, 11, 1, 1, false) = BAD
            grid(-1, 9, 1, 1, false) = BAD
            grid(16, 9, -1, 1, false) = BAD
            """);
        Script.run("promise 4, storeys", """
            storeys(0, 4) = 1
            form(0) = 11
            size(0, 0) = 4
            size(0, 1) = 4
            storeys(1, 0) = 1
            size(1, 0) = 0
            storeys(0, 5) = BAD
            storeys(16, 1) = BAD
            storeys(-1, 1) = BAD
            storeys(0, -1) = -13
            size(0, 0) = 4
            told(1) = 2
            """);
    }

    private static void holding() {
        Script.run("promise 5, share", """
            row(0, 4, 2) = 1
            share(1, 0) = 1
            put(1, 4, 0, 9) = 1
            get(0, 4, 0) = 9
            alike(0, 1) = 2
            share(0, NONE) = 1
            form(0) = NONE
            get(1, 4, 0) = 9
            share(1, 1) = 1
            form(1) = 4
            share(1, 5) = 1
            form(1) = NONE
            share(16, 0) = BAD
            share(-1, 0) = BAD
            share(0, 16) = BAD
            share(0, -2) = BAD
            """);
        Script.run("promises 6 and 7, form and is", """
            row(0, 0, 1) = 1
            row(1, 7, 1) = 1
            grid(2, 9, 1, 1, false) = 1
            storeys(3, 1) = 1
            tray(4, 13, 1) = 1
            plant(5, 2, 0, 0, 10, 10) = 0
            card(6) = 0
            form(0) = 0
            form(1) = 7
            form(2) = 9
            form(3) = 11
            form(4) = 13
            form(5) = 16
            form(6) = 17
            form(7) = NONE
            form(16) = BAD
            form(-1) = BAD
            is(0, 0) = 1
            is(0, 1) = 0
            is(1, 7) = 1
            is(2, 9) = 1
            is(2, 8) = 0
            is(3, 11) = 1
            is(4, 13) = 1
            is(4, 12) = 0
            is(4, 16) = 0
            is(5, 16) = 1
            is(5, 17) = 0
            is(6, 17) = 1
            is(7, 0) = 0
            is(7, 12) = 0
            is(0, 18) = BAD
            is(0, -1) = BAD
            is(16, 0) = BAD
            # what the trays are for: a graft
            is(5, 12) = 1
            is(5, 13) = 1
            is(5, 14) = 0
            is(5, 15) = 1
            plant(5, 0, 0, 0, 0, 0) = 1
            is(5, 12) = 1
            is(5, 13) = 0
            is(5, 14) = 1
            is(5, 15) = 0
            plant(5, 1, 0, 0, 0, 0) = 2
            is(5, 12) = 1
            is(5, 13) = 1
            is(5, 14) = 0
            is(5, 15) = 1
            plant(5, 3, 0, 0, 0, 0) = 3
            is(5, 12) = 1
            is(5, 13) = 0
            is(5, 14) = 1
            is(5, 15) = 1
            plant(5, 4, 0, 0, 0, 0) = 4
            is(5, 12) = 0
            is(5, 13) = 0
            is(5, 14) = 0
            is(5, 15) = 0
            plant(5, 5, 0, 0, 0, 0) = 5
            is(5, 12) = 0
            is(5, 13) = 0
            is(5, 14) = 0
            is(5, 15) = 1
            """);
    }

    private static void cells() {
        Script.run("promises 8 and 9, get and put", """
            row(0, 0, 2) = 1
            put(0, 0, 1, 6) = 1
            get(0, 0, 1) = 0
            put(0, 0, 1, 7) = 1
            get(0, 0, 1) = 1
            row(1, 1, 1) = 1
            put(1, 1, 0, 200) = 1
            get(1, 1, 0) = -56
            row(2, 2, 1) = 1
            put(2, 2, 0, -1) = 1
            get(2, 2, 0) = 65535
            row(3, 3, 1) = 1
            put(3, 3, 0, 40000) = 1
            get(3, 3, 0) = -25536
            row(4, 4, 1) = 1
            put(4, 4, 0, 4294967295) = 1
            get(4, 4, 0) = -1
            row(5, 5, 1) = 1
            put(5, 5, 0, 0x8000000000000001) = 1
            get(5, 5, 0) = 0x8000000000000001
            row(6, 6, 1) = 1
            put(6, 6, 0, 0xFFFFFFFF80000000) = 1
            get(6, 6, 0) = -2147483648
            put(6, 6, 0, 0xFF800001) = 1
            get(6, 6, 0) = 0x7FC00000
            put(6, 6, 0, 0x7F800000) = 1
            get(6, 6, 0) = 0x7F800000
            put(6, 6, 0, 0xFF800000) = 1
            get(6, 6, 0) = -8388608
            row(7, 7, 1) = 1
            put(7, 7, 0, 0xFFF0000000000001) = 1
            get(7, 7, 0) = 0x7FF8000000000000
            put(7, 7, 0, 0xFFF0000000000000) = 1
            get(7, 7, 0) = 0xFFF0000000000000
            put(7, 7, 0, 0x8000000000000000) = 1
            get(7, 7, 0) = 0x8000000000000000
            told(2) = 0
            # taken for another lane: a cast ahead of the index
            get(0, 1, 9) = 0
            fault() = 4
            get(9, 1, 9) = 0
            fault() = 1
            get(0, 0, 2) = 0
            fault() = 2
            get(0, 0, -1) = 0
            told(2) = 4
            put(0, 1, 9, 1) = -14
            put(9, 1, 9, 1) = -11
            put(0, 0, 2, 1) = -12
            put(0, 0, -1, 1) = -12
            put(8, 8, 0, 1) = BAD
            put(16, 0, 0, 1) = BAD
            put(0, -1, 0, 1) = BAD
            get(16, 0, 0) = 0
            get(0, 8, 0) = 0
            told(2) = 8
            get(0, 0, 1) = 1
            """);
    }

    private static void beds() {
        Script.run("promises 10 and 11, bed and setBed", """
            grid(0, 8, 2, 3, false) = 1
            setBed(0, 8, 1, 2, 40000) = 1
            bed(0, 8, 1, 2) = -25536
            grid(1, 9, 2, 3, false) = 1
            setBed(1, 9, 0, 0, 4294967297) = 1
            bed(1, 9, 0, 0) = 1
            grid(2, 10, 2, 3, false) = 1
            setBed(2, 10, 0, 0, 0x7FF0000000000001) = 1
            bed(2, 10, 0, 0) = 0x7FF8000000000000
            setBed(2, 10, 0, 0, d-0.0) = 1
            bed(2, 10, 0, 0) = d-0.0
            grid(3, 9, 2, 3, true) = 1
            bed(0, 9, 0, 0) = 0
            fault() = 4
            bed(9, 9, 0, 0) = 0
            fault() = 1
            bed(1, 9, 2, 0) = 0
            fault() = 2
            bed(3, 9, 1, 9) = 0
            fault() = 1
            bed(1, 9, 1, 3) = 0
            fault() = 2
            bed(1, 9, -1, 0) = 0
            bed(1, 9, 1, -1) = 0
            told(2) = 7
            bed(1, 11, 0, 0) = 0
            bed(1, 7, 0, 0) = 0
            bed(16, 9, 0, 0) = 0
            told(2) = 7
            setBed(0, 9, 0, 0, 1) = -14
            setBed(9, 9, 0, 0, 1) = -11
            setBed(1, 9, 2, 0, 1) = -12
            setBed(3, 9, 1, 9, 1) = -11
            setBed(1, 9, 1, 3, 1) = -12
            setBed(1, 11, 0, 0, 1) = BAD
            setBed(-1, 9, 0, 0, 1) = BAD
            """);
        Script.run("promise 12, countUp", """
            storeys(0, 3) = 1
            grid(1, 9, 2, 2, false) = 1
            grid(2, 9, 1, 2, true) = 1
            set(0, 0, 1) = 1
            set(0, 1, 2) = 1
            countUp(0, 0, 1, 1, false) = 0
            countUp(0, 0, 1, 1, true) = 2
            bed(1, 9, 1, 1) = 2
            setBed(1, 9, 0, 0, 2147483647) = 1
            countUp(0, 0, 0, 0, true) = -2147483648
            countUp(0, 0, 0, 0, false) = -2147483648
            told(2) = 0
            countUp(1, 0, 0, 0, true) = 0
            fault() = 4
            countUp(9, 0, 0, 0, true) = 0
            fault() = 1
            countUp(0, 3, 0, 0, true) = 0
            fault() = 2
            countUp(0, 2, 9, 9, true) = 0
            fault() = 1
            countUp(0, 0, 2, 9, true) = 0
            fault() = 2
            countUp(0, 1, 0, 9, true) = 0
            fault() = 1
            countUp(0, 0, 0, 2, true) = 0
            fault() = 2
            told(2) = 7
            countUp(16, 0, 0, 0, true) = 0
            told(2) = 7
            """);
    }

    private static void places() {
        Script.run("promises 13 to 15, set, lift, liftAs", """
            row(0, 4, 1) = 1
            grid(1, 9, 2, 1, true) = 1
            set(1, 1, 0) = 1
            size(1, 1) = 1
            lift(2, 1, 1) = 1
            alike(2, 0) = 2
            lift(2, 1, 0) = 1
            form(2) = NONE
            set(1, 1, 2) = 1
            size(1, 1) = 2
            # cast, null, index, store in their order
            set(0, 9, 0) = -14
            set(9, 9, 0) = -11
            set(1, 2, 1) = -12
            set(1, -1, 0) = -12
            set(1, 0, 1) = -15
            row(3, 3, 1) = 1
            set(1, 0, 3) = -15
            storeys(4, 1) = 1
            set(4, 0, 1) = 1
            set(4, 0, 0) = -15
            grid(5, 8, 1, 1, false) = 1
            set(4, 0, 5) = -15
            set(5, 0, 3) = 1
            set(5, 0, 0) = -15
            set(5, 0, 9) = 1
            set(1, 0, 16) = BAD
            set(16, 0, 0) = BAD
            set(-1, 0, 0) = BAD
            tray(6, 12, 1) = 1
            plant(7, 4, 0, 0, 0, 0) = 0
            set(6, 0, 7) = -15
            set(6, 0, 0) = -15
            plant(8, 0, 0, 0, 0, 0) = 1
            set(6, 0, 8) = 1
            set(7, 0, 0) = -14
            lift(9, 0, 0) = -14
            lift(9, 10, 0) = -11
            lift(9, 6, 1) = -12
            lift(9, 6, -1) = -12
            lift(16, 6, 0) = BAD
            lift(0, 16, 0) = BAD
            form(9) = NONE
            lift(9, 6, 0) = 1
            alike(9, 8) = 2
            """);
        Script.run("promise 15, liftAs", """
            grid(0, 9, 2, 1, false) = 1
            storeys(1, 2) = 1
            set(1, 0, 0) = 1
            liftAs(2, 0, 0, 4) = 1
            form(2) = 4
            liftAs(2, 0, 0, 5) = -14
            form(2) = 4
            liftAs(3, 1, 0, 9) = 1
            alike(3, 0) = 2
            liftAs(3, 1, 0, 8) = -14
            alike(3, 0) = 2
            # nothing goes for each form
            liftAs(3, 1, 1, 13) = 1
            form(3) = NONE
            tray(4, 15, 2) = 1
            plant(5, 5, 0, 0, 0, 0) = 0
            set(4, 0, 5) = 1
            liftAs(6, 4, 0, 15) = -14
            liftAs(6, 4, 0, 17) = -14
            liftAs(6, 4, 0, 16) = 1
            alike(6, 5) = 2
            liftAs(6, 2, 0, 4) = -14
            liftAs(6, 9, 0, 4) = -11
            liftAs(6, 4, 2, 16) = -12
            liftAs(6, 4, 0, 18) = BAD
            liftAs(6, 4, 0, -1) = BAD
            liftAs(16, 4, 0, 16) = BAD
            liftAs(6, -1, 0, 16) = BAD
            """);
    }

    private static void shifting() {
        Script.run("promises 16 and 17, shift and came", """
            row(0, 4, 5) = 1
            put(0, 4, 0, 1) = 1
            put(0, 4, 1, 2) = 1
            put(0, 4, 2, 3) = 1
            put(0, 4, 3, 4) = 1
            put(0, 4, 4, 5) = 1
            shift(0, 0, 0, 1, 4) = 4
            came() = 4
            get(0, 4, 0) = 1
            get(0, 4, 1) = 1
            get(0, 4, 2) = 2
            get(0, 4, 3) = 3
            get(0, 4, 4) = 4
            shift(0, 1, 0, 0, 4) = 4
            get(0, 4, 0) = 1
            get(0, 4, 3) = 4
            get(0, 4, 4) = 4
            shift(0, 5, 0, 5, 0) = 0
            came() = 0
            row(1, 4, 2) = 1
            shift(0, 2, 1, 0, 2) = 2
            get(1, 4, 0) = 3
            get(1, 4, 1) = 4
            came() = 2
            shift(16, 0, 0, 0, 0) = BAD
            shift(0, 0, -1, 0, 0) = BAD
            came() = 2
            shift(0, 4, 1, 0, 2) = -12
            came() = 0
            shift(0, 0, 1, 1, 2) = -12
            shift(0, -1, 1, 0, 1) = -12
            shift(0, 0, 1, -1, 1) = -12
            shift(0, 0, 1, 0, -1) = -12
            shift(0, 2147483647, 1, 0, 1) = -12
            shift(0, 1, 1, 0, 2147483647) = -12
            row(2, 5, 5) = 1
            grid(3, 9, 2, 1, false) = 1
            card(4) = 0
            shift(9, 0, 4, 0, 1) = -11
            shift(4, 0, 9, 0, 1) = -11
            shift(4, 0, 4, 0, 0) = -15
            shift(0, -1, 2, 0, 1) = -15
            shift(0, 0, 3, 0, 0) = -15
            shift(3, 0, 0, 0, 0) = -15
            """);
        Script.run("promise 16, shift of places", """
            plant(0, 0, 0, 0, 0, 0) = 0
            plant(1, 3, 0, 0, 0, 0) = 1
            plant(2, 1, 0, 0, 0, 0) = 2
            tray(3, 12, 4) = 1
            set(3, 0, 1) = 1
            set(3, 2, 0) = 1
            set(3, 3, 2) = 1
            tray(4, 14, 4) = 1
            # the cress, nothing and the herb come, the tomato does not
            shift(3, 0, 4, 0, 4) = -15
            came() = 3
            fault() = 5
            lift(5, 4, 0) = 1
            alike(5, 1) = 2
            lift(5, 4, 2) = 1
            alike(5, 0) = 2
            size(4, 1) = 2
            shift(3, 3, 4, 0, 1) = -15
            came() = 0
            shift(3, 0, 3, 1, 3) = 3
            came() = 3
            lift(5, 3, 1) = 1
            alike(5, 1) = 2
            lift(5, 3, 3) = 1
            alike(5, 0) = 2
            # nothing is for all
            grid(6, 9, 3, 1, true) = 1
            shift(6, 0, 4, 1, 3) = 3
            size(4, 1) = 3
            shift(4, 0, 6, 0, 2) = -15
            came() = 0
            shift(4, 1, 6, 0, 2) = 2
            storeys(7, 2) = 1
            grid(8, 9, 2, 2, false) = 1
            shift(8, 0, 7, 0, 1) = -15
            shift(8, 0, 6, 1, 2) = 2
            lift(9, 6, 2) = 1
            lift(10, 8, 1) = 1
            alike(9, 10) = 2
            shift(8, 0, 6, 2, 2) = -12
            """);
    }

    private static void copies() {
        Script.run("promise 18, copy", """
            row(0, 4, 2) = 1
            put(0, 4, 0, 5) = 1
            copy(1, 0, false) = 1
            alike(1, 0) = 1
            put(1, 4, 0, 6) = 1
            get(0, 4, 0) = 5
            grid(2, 9, 2, 1, true) = 1
            set(2, 0, 0) = 1
            set(2, 1, 0) = 1
            told(1) = 3
            copy(3, 2, false) = 1
            told(1) = 4
            lift(4, 3, 1) = 1
            alike(4, 0) = 2
            # each place gets a copy of its own
            copy(3, 2, true) = 1
            told(1) = 7
            lift(4, 3, 0) = 1
            lift(5, 3, 1) = 1
            alike(4, 5) = 1
            alike(4, 0) = 1
            storeys(6, 2) = 1
            set(6, 1, 2) = 1
            copy(7, 6, true) = 1
            told(1) = 12
            alike(7, 6) = 1
            countUp(7, 1, 0, 0, true) = 6
            get(0, 4, 0) = 5
            alike(7, 6) = 0
            copy(7, 6, false) = 1
            countUp(7, 1, 0, 0, true) = 6
            get(0, 4, 0) = 6
            plant(8, 0, 1, 1, 0, 0) = 0
            told(1) = 14
            copy(9, 8, true) = 1
            alike(9, 8) = 2
            told(1) = 14
            tray(10, 12, 1) = 1
            set(10, 0, 8) = 1
            copy(11, 10, true) = 1
            alike(11, 10) = 1
            lift(12, 11, 0) = 1
            alike(12, 8) = 2
            told(1) = 16
            copy(12, 14, true) = 1
            form(12) = NONE
            told(1) = 16
            card(12) = 0
            setField(12, 4, 3) = 1
            lead(12, 0, 12) = 1
            lead(12, 1, 8) = 1
            copy(13, 12, false) = 1
            told(1) = 18
            field(13, 4) = 3
            follow(14, 13, 0) = 1
            alike(14, 12) = 2
            follow(14, 13, 1) = 1
            alike(14, 8) = 2
            led(13, 2) = 0
            led(13, 0) = 2
            card(14) = 2
            copy(16, 0, true) = BAD
            copy(0, 16, true) = BAD
            copy(0, -1, true) = BAD
            """);
        Script.run("promises 19 and 20, alike and size", """
            alike(0, 1) = 2
            row(0, 4, 2) = 1
            alike(0, 1) = 0
            row(1, 4, 2) = 1
            alike(0, 1) = 1
            alike(0, 0) = 2
            row(2, 4, 3) = 1
            alike(0, 2) = 0
            row(3, 5, 2) = 1
            alike(0, 3) = 0
            row(4, 7, 1) = 1
            row(5, 7, 1) = 1
            put(4, 7, 0, d-0.0) = 1
            alike(4, 5) = 0
            put(4, 7, 0, 0x7FF0000000000009) = 1
            put(5, 7, 0, 0xFFF8000000000000) = 1
            alike(4, 5) = 1
            grid(6, 9, 1, 2, false) = 1
            grid(7, 9, 1, 2, true) = 1
            alike(6, 7) = 0
            set(7, 0, 0) = 1
            alike(6, 7) = 1
            put(0, 4, 1, 1) = 1
            alike(6, 7) = 0
            plant(8, 0, 1, 1, 0, 0) = 0
            plant(9, 0, 1, 1, 0, 0) = 1
            alike(8, 9) = 0
            tray(10, 12, 1) = 1
            tray(11, 12, 1) = 1
            tray(12, 14, 1) = 1
            alike(10, 11) = 1
            alike(10, 12) = 0
            set(10, 0, 8) = 1
            set(11, 0, 9) = 1
            alike(10, 11) = 0
            set(11, 0, 8) = 1
            alike(10, 11) = 1
            card(13) = 0
            card(14) = 1
            alike(13, 14) = 1
            lead(13, 1, 8) = 1
            alike(13, 14) = 0
            lead(14, 1, 9) = 1
            alike(13, 14) = 0
            lead(14, 1, 8) = 1
            alike(13, 14) = 1
            lead(13, 0, 13) = 1
            lead(14, 0, 14) = 1
            alike(13, 14) = 0
            alike(16, 0) = BAD
            alike(0, -1) = BAD
            size(0, 0) = 2
            size(0, 1) = 0
            size(10, 0) = 1
            size(10, 1) = 0
            size(12, 1) = 1
            size(8, 0) = -14
            size(13, 0) = -14
            size(15, 0) = -11
            size(0, 2) = BAD
            size(0, -1) = BAD
            size(16, 0) = BAD
            """);
    }
}

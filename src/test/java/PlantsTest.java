/** Promises 21 to 31: plants, trays, asks, cards. */
public final class PlantsTest {
    public static void main(String[] args) {
        making();
        asking();
        faultsOfAsks();
        cards();
        Script.end();
    }

    private static void making() {
        Script.run("promise 21, plant", """
            plant(0, 0, 1, 2, 99, 99) = 0
            plant(1, 5, 1, 2, -1, -1) = 1
            plant(2, 2, 1, 2, 0, 1) = 2
            plant(3, 2, 1, 2, 14, 15) = 3
            told(1) = 4
            plant(3, 6, 0, 0, 0, 0) = BAD
            plant(3, -1, 0, 0, 0, 0) = BAD
            plant(16, 0, 0, 0, 0, 0) = BAD
            plant(3, 2, 0, 0, 16, 0) = BAD
            plant(3, 2, 0, 0, 0, -1) = BAD
            row(4, 4, 1) = 1
            plant(5, 2, 0, 0, 4, 0) = -14
            plant(5, 2, 0, 0, 0, 4) = -14
            form(5) = NONE
            told(2) = 2
            # depths: 1 of a graft of plain plants or of nothing
            ask(3, 7) = 1
            answer() = 1
            ask(0, 7) = 1
            answer() = 0
            plant(5, 2, 0, 0, 2, 0) = 4
            plant(6, 2, 0, 0, 0, 5) = 5
            plant(7, 2, 0, 0, 6, 2) = 6
            ask(7, 7) = 1
            answer() = 4
            plant(8, 2, 0, 0, 7, 0) = FULL
            plant(8, 2, 0, 0, 0, 7) = FULL
            plant(8, 2, 0, 0, 7, 4) = -14
            form(8) = NONE
            told(1) = 8
            plant(8, 1, 0, 0, 0, 0) = 7
            """);
        Script.run("promise 22, tray", """
            tray(0, 12, 8) = 1
            form(0) = 12
            size(0, 0) = 8
            size(0, 1) = 8
            tray(1, 15, 0) = 1
            size(1, 0) = 0
            tray(1, 11, 1) = BAD
            tray(1, 16, 1) = BAD
            tray(1, 12, 9) = BAD
            tray(16, 12, 1) = BAD
            tray(1, 12, -1) = -13
            form(1) = 15
            told(1) = 2
            plant(2, 1, 0, 0, 0, 0) = 0
            tray(3, 13, 1) = 1
            set(3, 0, 2) = 1
            tray(4, 14, 1) = 1
            set(4, 0, 2) = -15
            plant(5, 5, 0, 0, 0, 0) = 1
            tray(6, 15, 1) = 1
            set(6, 0, 5) = 1
            set(0, 0, 5) = -15
            tray(7, 14, 1) = 1
            set(7, 0, 5) = -15
            """);
    }

    private static void asking() {
        Script.run("promises 23 to 25, what tomatoes and cresses tell", """
            plant(0, 1, 4, 3, 0, 0) = 0
            plant(1, 3, 9, 2, 0, 0) = 1
            ask(0, 1) = 1
            answer() = 28
            trace(0) = 11
            trace(1) = 10
            trace(2) = 2
            trace(3) = 1
            trace(4) = NONE
            trace(-1) = NONE
            trace(2147483647) = NONE
            ask(1, 0) = 1
            answer() = 4
            trace(0) = 4
            trace(1) = 1
            trace(2) = NONE
            ask(1, 1) = 1
            answer() = 7
            trace(0) = 10
            trace(1) = 4
            trace(2) = 1
            trace(3) = NONE
            ask(1, 2) = 1
            # 5000 by 9, and 3 and 9 by 2
            answer() = 562
            trace(0) = 21
            trace(1) = 20
            trace(2) = 10
            trace(3) = 4
            trace(4) = 1
            trace(5) = NONE
            ask(1, 3) = 1
            answer() = 7
            trace(0) = 30
            trace(1) = NONE
            ask(1, 6) = 1
            answer() = 3
            trace(0) = NONE
            """);
        Script.run("promise 23, what the others tell", """
            plant(0, 4, 7, 1, 0, 0) = 0
            plant(1, 5, 7, 6, 0, 0) = 1
            plant(2, 2, 10, 20, 0, 1) = 2
            ask(0, 0) = 1
            answer() = 7
            ask(0, 2) = 1
            answer() = 714
            ask(0, 1) = -14
            answer() = 714
            trace(0) = NONE
            ask(1, 1) = 1
            answer() = 6
            trace(0) = 12
            trace(1) = NONE
            ask(1, 0) = 1
            answer() = 7
            ask(1, 2) = -14
            ask(1, 3) = 1
            answer() = 7
            ask(2, 0) = 1
            # 7 and 7, and twice 10 and 20
            answer() = 54
            trace(0) = 3
            trace(1) = 1
            trace(2) = 1
            trace(3) = 2
            trace(4) = 1
            trace(5) = NONE
            ask(2, 1) = 1
            answer() = 114
            trace(0) = 11
            trace(1) = 10
            trace(2) = 3
            ask(2, 2) = 1
            answer() = 500
            trace(0) = 20
            trace(1) = NONE
            ask(2, 3) = 1
            answer() = 29
            trace(0) = 31
            ask(2, 4) = 1
            answer() = 9
            ask(2, 5) = 1
            answer() = 2
            ask(2, 6) = 1
            answer() = 2
            ask(2, 7) = 1
            answer() = 1
            ask(0, 4) = 1
            answer() = 7
            plant(3, 0, 5, 0, 0, 0) = 3
            ask(3, 1) = -14
            ask(3, 2) = 1
            answer() = 1000
            """);
        Script.run("promise 23, all wraps", """
            plant(0, 1, 2147483647, 5, 0, 0) = 0
            ask(0, 0) = 1
            answer() = 3
            plant(1, 3, -2147483648, -1, 0, 0) = 1
            ask(1, 0) = 1
            answer() = -2147483648
            plant(2, 2, 0, 2147483640, 0, 0) = 2
            ask(2, 3) = 1
            answer() = -2147483647
            plant(3, 0, -3, 0, 0, 0) = 3
            ask(3, 2) = 1
            answer() = -1666
            """);
        Script.run("promise 25, the longest trace", """
            plant(0, 1, 1, 0, 0, 0) = 0
            plant(1, 2, 0, 0, 0, 0) = 1
            plant(2, 2, 0, 0, 1, 1) = 2
            plant(3, 2, 0, 0, 2, 2) = 3
            plant(4, 2, 0, 0, 3, 3) = 4
            ask(4, 1) = 1
            # sixteen tomatoes of size 2, and 3, twice
            answer() = 70
            trace(0) = 11
            trace(1) = 10
            trace(2) = 3
            trace(77) = 2
            trace(78) = 1
            trace(79) = NONE
            """);
    }

    private static void faultsOfAsks() {
        Script.run("promise 23, faults", """
            row(0, 4, 1) = 1
            card(1) = 0
            ask(0, 0) = -14
            ask(1, 7) = -14
            ask(2, 0) = -11
            ask(2, 1) = -11
            ask(2, 5) = -11
            ask(16, 0) = BAD
            ask(-1, 0) = BAD
            ask(0, 8) = BAD
            ask(0, -1) = BAD
            plant(2, 3, 5, 0, 0, 0) = 0
            ask(2, 0) = -16
            trace(0) = 4
            trace(1) = 1
            trace(2) = NONE
            ask(2, 2) = -16
            trace(0) = 21
            trace(1) = 20
            trace(2) = 10
            trace(3) = 4
            trace(4) = 1
            plant(3, 3, 0, 1, 0, 0) = 1
            ask(3, 2) = -16
            trace(1) = 20
            trace(2) = NONE
            # what is bad leaves the trace and the answer
            ask(3, 9) = BAD
            trace(1) = 20
            answer() = 0
            # parts that are nothing, the first one and the second one
            plant(4, 0, 5, 5, 0, 0) = 2
            plant(5, 2, 1, 1, 15, 4) = 3
            ask(5, 0) = -11
            trace(0) = 3
            trace(1) = NONE
            plant(6, 2, 1, 1, 4, 15) = 4
            ask(6, 0) = -11
            trace(0) = 3
            trace(1) = 1
            trace(2) = NONE
            ask(6, 1) = -11
            trace(0) = 11
            trace(3) = 1
            trace(4) = NONE
            ask(6, 3) = 1
            answer() = 10
            plant(7, 2, 1, 1, 2, 15) = 5
            ask(7, 0) = -16
            told(2) = 12
            fault() = 6
            """);
    }

    private static void cards() {
        Script.run("promises 26 to 28, cards and their fields", """
            card(0) = 0
            card(1) = 1
            card(0) = 2
            card(16) = BAD
            card(-1) = BAD
            told(1) = 3
            field(0, 0) = 0
            field(0, 7) = 0
            setField(0, 0, 3) = 1
            field(0, 0) = 1
            setField(0, 1, 128) = 1
            field(0, 1) = -128
            setField(0, 2, 65537) = 1
            field(0, 2) = 1
            setField(0, 3, 32768) = 1
            field(0, 3) = -32768
            setField(0, 4, 2147483648) = 1
            field(0, 4) = -2147483648
            setField(0, 5, -5) = 1
            field(0, 5) = -5
            setField(0, 6, f-0.0) = 1
            field(0, 6) = -2147483648
            setField(0, 7, 0xFFFFFFFFFFFFFFFF) = 1
            field(0, 7) = 0x7FF8000000000000
            field(0, 1) = -128
            field(1, 1) = 0
            row(2, 4, 1) = 1
            field(2, 4) = 0
            fault() = 4
            field(3, 4) = 0
            fault() = 1
            told(2) = 2
            field(0, 8) = 0
            field(16, 0) = 0
            told(2) = 2
            setField(2, 4, 1) = -14
            setField(3, 4, 1) = -11
            setField(0, -1, 1) = BAD
            setField(0, 8, 1) = BAD
            setField(16, 0, 1) = BAD
            """);
        Script.run("promises 29 to 31, cards that lead on", """
            card(0) = 0
            card(1) = 1
            card(2) = 2
            plant(3, 0, 1, 1, 0, 0) = 0
            row(4, 4, 1) = 1
            led(0, 0) = 1
            led(0, 1) = NONE
            led(0, 2) = 0
            lead(0, 0, 1) = 1
            lead(1, 0, 2) = 1
            led(0, 0) = 3
            led(1, 0) = 2
            led(0, 2) = 2
            lead(2, 0, 0) = 1
            led(1, 0) = 3
            led(1, 1) = 1
            led(1, 2) = 0
            lead(2, 0, 2) = 1
            led(0, 0) = 3
            led(0, 1) = 2
            led(0, 2) = 2
            lead(2, 0, 9) = 1
            led(0, 1) = NONE
            lead(0, 1, 3) = 1
            follow(5, 0, 1) = 1
            alike(5, 3) = 2
            follow(5, 0, 0) = 1
            alike(5, 1) = 2
            follow(0, 0, 0) = 1
            alike(0, 1) = 2
            follow(5, 2, 0) = 1
            form(5) = NONE
            # a cast of either comes ahead of null
            lead(9, 0, 3) = -14
            lead(9, 1, 1) = -14
            lead(9, 0, 1) = -11
            lead(9, 0, 9) = -11
            lead(4, 0, 1) = -14
            lead(1, 0, 4) = -14
            lead(1, 1, 4) = -14
            lead(1, 2, 1) = BAD
            lead(1, -1, 1) = BAD
            lead(16, 0, 1) = BAD
            lead(1, 0, 16) = BAD
            lead(1, 0, -1) = BAD
            lead(1, 1, 9) = 1
            follow(5, 4, 0) = -14
            follow(5, 9, 0) = -11
            follow(5, 1, 2) = BAD
            follow(16, 1, 0) = BAD
            follow(5, -1, 0) = BAD
            led(4, 0) = -14
            led(9, 0) = -11
            led(1, 3) = BAD
            led(1, -1) = BAD
            led(16, 0) = BAD
            """);
    }
}

/** The limits of THINGS and FAULTS (Terms; promises 2 to 4, 18, 21, 22, 26, 35, 54, 74, 75). */
public final class LimitsTest {
    /** Calls that can make things, and run(): all are FULL; others go on. */
    private static final String REFUSED = """
        row(5, 4, 1) = FULL
        row(5, 4, -1) = FULL
        row(5, 4, 41) = BAD
        grid(5, 9, 1, 1, true) = FULL
        storeys(5, 1) = FULL
        tray(5, 12, 1) = FULL
        plant(5, 0, 0, 0, 0, 0) = FULL
        plant(5, 2, 0, 0, 0, 0) = FULL
        plant(5, 9, 0, 0, 0, 0) = BAD
        card(5) = FULL
        copy(5, 0, false) = FULL
        copy(5, 15, true) = FULL
        copy(5, 4, true) = FULL
        run(0) = FULL
        run(1) = NO
        run(4) = BAD
        shares(0, 5, 5) = FULL
        shares(3, 5, 5) = NO
        # BAD comes ahead of FULL
        row(16, 4, 1) = BAD
        row(5, 8, 1) = BAD
        grid(16, 9, 1, 1, true) = BAD
        grid(5, 11, 1, 1, true) = BAD
        grid(5, 9, 11, 1, true) = BAD
        grid(5, 9, 1, 41, false) = BAD
        storeys(16, 1) = BAD
        storeys(5, 5) = BAD
        tray(5, 11, 1) = BAD
        tray(5, 12, 9) = BAD
        plant(16, 0, 0, 0, 0, 0) = BAD
        plant(5, 2, 0, 0, 16, 0) = BAD
        card(16) = BAD
        copy(5, 16, false) = BAD
        copy(-1, 5, false) = BAD
        shares(0, -1, 5) = BAD
        shares(0, 5, 16) = BAD
        # the FAULT behind it
        grid(5, 9, -1, 1, true) = FULL
        storeys(5, -1) = FULL
        tray(5, 12, -1) = FULL
        plant(5, 2, 0, 0, 0, 0) = FULL
        # CAST, NULL ahead of NO, FULL
        shares(4, 5, 5) = -14
        shares(15, 5, 5) = -11
        form(5) = NONE
        # others go on
        share(6, 0) = 1
        form(6) = 4
        set(2, 0, 0) = 1
        lift(6, 2, 0) = 1
        get(0, 4, 0) = 3
        write(0) = 1
        work() = 1
        put(0, 4, 0, 4) = 1
        put(0, 4, 0, 3) = 1
        bed(2, 9, 0, 0) = 3
        setBed(2, 9, 0, 0, 2) = 1
        countUp(13, 0, 0, 0, false) = 2
        liftAs(6, 2, 0, 4) = 1
        shift(0, 0, 3, 0, 1) = 1
        came() = 1
        alike(0, 3) = 1
        size(2, 0) = 1
        is(4, 12) = 1
        ask(4, 0) = 1
        answer() = 1
        trace(0) = 1
        field(14, 4) = 0
        setField(14, 4, 9) = 1
        lead(14, 0, 14) = 1
        follow(6, 14, 0) = 1
        led(14, 0) = 1
        drop(1) = 1
        step(1, 1, 0, 1, 0) = 0
        formed(1) = NONE
        run(1) = FULL
        ran(0) = 0
        setStock(1, 5) = 1
        stock(1) = 5
        valve(0, 0) = 0
        line(0, 0, 0) = 1
        value(0, 0) = 0
        laid(0) = 0
        rest(1, 0) = 1
        read(0, d1.0) = 1
        part(d1.0) = 1
        mark(0, 0, 7) = 1
        wish(0, 9) = 7
        weather(0, 1) = 0
        minute(1) = 1
        probe(0, 0) = 1
        voted(0) = d1.0
        air(0, 8) = 12
        unmark(0) = 1
        quotient(5, 7, 2, 0) = 3
        compare(7, 12, 0, 12, 0) = 26
        real(7, 12, 1) = 0
        wholeMean(0) = 1
        salt(0, 0, 1) = 0
        work() = 1
        worked(3, 0) = 1
        count(0, 0, 4) = 1
        parts(0, 0, 0, 1000, 0) = 1
        day(1) = 1
        pest(0, 0) = 2
        spray(0) = 1
        wait1() = 7
        octet(0, 3) = 1
        damage(0, 0, 0) = 0
        power(0) = 1
        write(0) = NO
        open1() = 1
        page(0, 1) = 1
        share(6, NONE) = 1
        # what the calls between leave as it was
        told(0) = 1
        told(7) = 1
        fault() = 1
        answer() = 3
        came() = 1
        trace(0) = 1
        """;

    private static final String READY = """
        row(0, 4, 1) = 1
        put(0, 4, 0, 3) = 1
        grid(2, 9, 1, 1, true) = 1
        row(3, 4, 1) = 1
        plant(4, 0, 1, 1, 0, 0) = 0
        row(12, 7, 1) = 1
        storeys(13, 1) = 1
        set(13, 0, 2) = 1
        card(14) = 0
        step(1, 0, 0, 0, 0) = 0
        """;

    public static void main(String[] args) {
        Script.run("four thousand things", READY + """
            told(1) = 7
            storeys(7, 4) = 1
            grid(8, 9, 10, 1, false) = 1
            told(1) = 19
            set(7, 0, 8) = 1
            set(7, 1, 8) = 1
            set(7, 2, 8) = 1
            set(7, 3, 8) = 1
            # each copy makes 1 and 4 and 40
            88 * copy(9, 7, true)
            told(1) = 3979
            grid(9, 9, 10, 1, false) = 1
            9 * row(9, 0, 0)
            told(1) = 3999
            # one call may go beyond
            copy(9, 7, true) = 1
            told(1) = 4044
            """ + REFUSED + """
            told(1) = 4044
            told(2) = 2
            get(0, 5, 0) = 0
            told(2) = 3
            fault() = 4
            """);
        Script.run("exactly four thousand things", """
            storeys(7, 4) = 1
            grid(8, 9, 10, 1, false) = 1
            set(7, 0, 8) = 1
            set(7, 1, 8) = 1
            set(7, 2, 8) = 1
            set(7, 3, 8) = 1
            88 * copy(9, 7, true)
            told(1) = 3972
            27 * row(9, 0, 0)
            told(1) = 3999
            run(0) = 0
            card(9) = 0
            told(1) = 4000
            card(9) = FULL
            run(0) = FULL
            """);
        Script.run("one call may go beyond: a GRID, with its ROWS", """
            storeys(7, 4) = 1
            grid(8, 9, 10, 1, false) = 1
            set(7, 0, 8) = 1
            set(7, 1, 8) = 1
            set(7, 2, 8) = 1
            set(7, 3, 8) = 1
            88 * copy(9, 7, true)
            27 * row(9, 0, 0)
            told(1) = 3999
            grid(9, 8, 10, 40, false) = 1
            told(1) = 4010
            size(9, 0) = 10
            size(9, 1) = 0
            row(9, 0, 0) = FULL
            told(1) = 4010
            """);
        Script.run("three thousand faults", READY + """
            # AGAIN nine times, in a TRY, in a LOOP: 9 faults in 22 steps, and SPENT
            setStock(0, 1) = 1
            step(0, 20, 0, 0, 0) = 0
            step(0, 16, 0, 0, 0) = 1
            step(0, 15, 9, 0, 0) = 2
            step(0, 7, 1, 0, 0) = 3
            step(0, 0, 0, 0, 0) = 4
            step(0, 0, 0, 0, 0) = 5
            step(0, 17, 8, 0, 0) = 6
            step(0, 0, 0, 0, 0) = 7
            step(0, 0, 0, 0, 0) = 8
            run(0) = -30
            ran(8) = 135
            told(2) = 135
            fault() = 0
            21 * run(0)
            told(2) = 2970
            29 * get(15, 0, 0)
            told(2) = 2999
            row(9, 0, 0) = 1
            # one call may go beyond
            run(0) = -30
            told(2) = 3134
            fault() = 1
            """ + REFUSED + """
            told(2) = 3136
            put(0, 5, 0, 1) = -14
            told(2) = 3137
            fault() = 4
            """);
        Script.run("exactly three thousand faults", """
            setStock(0, 1) = 1
            step(0, 20, 0, 0, 0) = 0
            step(0, 16, 0, 0, 0) = 1
            step(0, 15, 9, 0, 0) = 2
            step(0, 7, 1, 0, 0) = 3
            step(0, 0, 0, 0, 0) = 4
            step(0, 0, 0, 0, 0) = 5
            step(0, 17, 8, 0, 0) = 6
            step(0, 0, 0, 0, 0) = 7
            step(0, 0, 0, 0, 0) = 8
            22 * run(0)
            29 * get(15, 0, 0)
            told(2) = 2999
            # the last fault that leaves a call its own answer
            row(0, 0, -1) = -13
            told(2) = 3000
            row(0, 0, -1) = FULL
            copy(0, 0, true) = FULL
            run(0) = FULL
            told(2) = 3000
            """);
        // More calls than an object is promised for; the limit lies beyond them.
        Script.run("promise 52, a hundred thousand minutes", """
            999 * minute(100)
            minute(99) = 99999
            minute(2) = FULL
            minute(101) = BAD
            told(0) = 99999
            minute(1) = 100000
            minute(1) = FULL
            """);
        Script.run("promise 75, fault", """
            fault() = 0
            get(0, 0, 0) = 0
            fault() = 1
            row(0, 0, 1) = 1
            fault() = 1
            row(16, 0, 1) = BAD
            fault() = 1
            get(0, 0, 1) = 0
            fault() = 2
            row(0, 0, -1) = -13
            fault() = 3
            get(0, 1, 0) = 0
            fault() = 4
            shift(0, 0, 0, 0, 1) = 1
            fault() = 4
            card(1) = 0
            shift(0, 0, 1, 0, 1) = -15
            fault() = 5
            quotient(4, 1, 0, 0) = 0
            fault() = 6
            step(0, 9, 0, 0, 0) = 0
            run(0) = -17
            fault() = 7
            step(1, 7, 0, 0, 0) = 0
            run(1) = -18
            fault() = 8
            told(2) = 8
            """);
        Script.end();
    }
}

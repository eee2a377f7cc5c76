/** The limits of THINGS and FAULTS (Terms; promises 2 to 4, 18, 21, 22, 26, 35, 54, 74, 75). */
public final class LimitsTest {
    /** Calls that can make things, and run(): all are FULL; others go on. */
    private static final String REFUSED = """
        row(5, 4, 1) = FULL
        row(5, 4, -1) = FULL
        row(5, 4, 41) = BAD
        grid(5, 9, 1, 1, true) = FULL
        storeys(5, 1) = FULL
        tray(5, 12, 1) = FULL
        plant(5, 0, 0, 0, 0, 0) = FULL
        plant(5, 2, 0, 0, 0, 0) = FULL
        plant(5, 9, 0, 0, 0, 0) = BAD
        card(5) = FULL
        copy(5, 0, false) = FULL
        copy(5, 15, true) = FULL
        copy(5, 4, true) = FULL
        run(0) = FULL
        run(1) = NO
        run(4) = BAD
        shares(0, 5, 5) = FULL
        shares(3, 5, 5) = NO
        form(5) = NONE
        share(6, 0) = 1
        set(2, 0, 0) = 1
        lift(6, 2, 0) = 1
        get(0, 4, 0) = 3
        write(0) = 1
        work() = 1
        # others go on
        put(0, 4, 0, 4) = 1
        put(0, 4, 0, 3) = 1
        bed(2, 9, 0, 0) = 3
        setBed(2, 9, 0, 0, 3) = 1
        liftAs(6, 2, 0, 4) = 1
        shift(0, 0, 3, 0, 1) = 1
        came() = 1
        alike(0, 3) = 1
        size(2, 0) = 1
        is(4, 12) = 1
        ask(4, 0) = 1
        answer() = 1
        drop(1) = 1
        step(1, 1, 0, 1, 0) = 0
        formed(1) = NONE
        run(1) = FULL
        setStock(1, 5) = 1
        line(0, 0, 0) = 1
        value(0, 0) = 0
        rest(1, 0) = 1
        read(0, d1.0) = 1
        part(d1.0) = 1
        mark(0, 0, 0) = 1
        weather(0, 1) = 0
        minute(1) = 1
        quotient(5, 7, 2, 0) = 3
        wholeMean(0) = 1
        salt(0, 0, 1) = 0
        work() = 1
        count(0, 0, 4) = 1
        parts(0, 0, 0, 1000, 0) = 1
        day(1) = 1
        spray(0) = 1
        damage(0, 0, 0) = 0
        power(0) = 1
        write(0) = NO
        open1() = 1
        share(6, NONE) = 1
        """;

    private static final String READY = """
        row(0, 4, 1) = 1
        put(0, 4, 0, 3) = 1
        grid(2, 9, 1, 1, true) = 1
        row(3, 4, 1) = 1
        plant(4, 0, 1, 1, 0, 0) = 0
        step(1, 0, 0, 0, 0) = 0
        """;

    public static void main(String[] args) {
        Script.run("four thousand things", READY + """
            told(1) = 4
            storeys(7, 4) = 1
            grid(8, 9, 10, 1, false) = 1
            told(1) = 16
            set(7, 0, 8) = 1
            set(7, 1, 8) = 1
            set(7, 2, 8) = 1
            set(7, 3, 8) = 1
            # each copy makes 1 and 4 and 40
            88 * copy(9, 7, true)
            told(1) = 3976
            grid(9, 9, 10, 1, false) = 1
            grid(9, 9, 10, 1, false) = 1
            told(1) = 3998
            row(9, 0, 0) = 1
            # one call may go beyond
            copy(9, 7, true) = 1
            told(1) = 4044
            """ + REFUSED + """
            told(1) = 4044
            told(2) = 0
            get(0, 5, 0) = 0
            told(2) = 1
            fault() = 4
            """);
        Script.run("exactly four thousand things", """
            storeys(7, 4) = 1
            grid(8, 9, 10, 1, false) = 1
            set(7, 0, 8) = 1
            set(7, 1, 8) = 1
            set(7, 2, 8) = 1
            set(7, 3, 8) = 1
            88 * copy(9, 7, true)
            told(1) = 3972
            27 * row(9, 0, 0)
            told(1) = 3999
            run(0) = 0
            card(9) = 0
            told(1) = 4000
            card(9) = FULL
            run(0) = FULL
            """);
        Script.run("three thousand faults", READY + """
            # AGAIN nine times, in a TRY, in a LOOP: 9 faults in 22 steps, and SPENT
            setStock(0, 1) = 1
            step(0, 20, 0, 0, 0) = 0
            step(0, 16, 0, 0, 0) = 1
            step(0, 15, 9, 0, 0) = 2
            step(0, 7, 1, 0, 0) = 3
            step(0, 0, 0, 0, 0) = 4
            step(0, 0, 0, 0, 0) = 5
            step(0, 17, 8, 0, 0) = 6
            step(0, 0, 0, 0, 0) = 7
            step(0, 0, 0, 0, 0) = 8
            run(0) = -30
            ran(8) = 135
            told(2) = 135
            fault() = 0
            21 * run(0)
            told(2) = 2970
            29 * get(15, 0, 0)
            told(2) = 2999
            row(9, 0, 0) = 1
            # one call may go beyond
            run(0) = -30
            told(2) = 3134
            fault() = 1
            """ + REFUSED + """
            told(2) = 3134
            put(0, 5, 0, 1) = -14
            told(2) = 3135
            fault() = 4
            """);
        Script.run("exactly three thousand faults", """
            setStock(0, 1) = 1
            step(0, 20, 0, 0, 0) = 0
            step(0, 16, 0, 0, 0) = 1
            step(0, 15, 9, 0, 0) = 2
            step(0, 7, 1, 0, 0) = 3
            step(0, 0, 0, 0, 0) = 4
            step(0, 0, 0, 0, 0) = 5
            step(0, 17, 8, 0, 0) = 6
            step(0, 0, 0, 0, 0) = 7
            step(0, 0, 0, 0, 0) = 8
            22 * run(0)
            29 * get(15, 0, 0)
            told(2) = 2999
            # the last fault that leaves a call its own answer
            row(0, 0, -1) = -13
            told(2) = 3000
            row(0, 0, -1) = FULL
            copy(0, 0, true) = FULL
            run(0) = FULL
            told(2) = 3000
            """);
        // More calls than an object is promised for; the limit lies beyond them.
        Script.run("promise 52, a hundred thousand minutes", """
            999 * minute(100)
            minute(99) = 99999
            minute(2) = FULL
            minute(101) = BAD
            told(0) = 99999
            minute(1) = 100000
            minute(1) = FULL
            """);
        Script.run("promise 75, fault", """
            fault() = 0
            get(0, 0, 0) = 0
            fault() = 1
            row(0, 0, 1) = 1
            fault() = 1
            row(16, 0, 1) = BAD
            fault() = 1
            get(0, 0, 1) = 0
            fault() = 2
            row(0, 0, -1) = -13
            fault() = 3
            get(0, 1, 0) = 0
            fault() = 4
            shift(0, 0, 0, 0, 1) = 1
            fault() = 4
            card(1) = 0
            shift(0, 0, 1, 0, 1) = -15
            fault() = 5
            quotient(4, 1, 0, 0) = 0
            fault() = 6
            step(0, 9, 0, 0, 0) = 0
            run(0) = -17
            fault() = 7
            step(1, 7, 0, 0, 0) = 0
            run(1) = -18
            fault() = 8
            told(2) = 8
            """);
        Script.end();
    }
}

/** The edges of the document's part 3, acts: each run bears the sentence that names the edge. */
public final class ActEdgesTest {
    public static void main(String[] args) {
        plansAndSteps();
        wellFormed();
        formsOfTries();
        stockAndValves();
        numbersThatAreNone();
        whatBinsHold();
        amounts();
        takesAndTimes();
        dos();
        keeps();
        agains();
        tries();
        causes();
        lasts();
        loops();
        spentAtTheLastStep();
        spentGivesBack();
        whatIsTold();
        refusedRuns();
        Script.end();
    }

    private static void plansAndSteps() {
        Script.run("A PLAN (0 .. 3) has up to 40 STEPS, by PLACES from 0 on", """
            step(-1, 1, 0, 0, 0) = BAD
            step(4, 1, 0, 0, 0) = BAD
            step(2147483647, 1, 0, 0, 0) = BAD
            step(3, 1, 0, 1, 0) = 0
            38 * step(3, 1, 0, 1, 0)
            step(3, 1, 0, 1, 0) = 39
            step(3, 1, 0, 1, 0) = FULL
            step(3, 0, 0, 0, 0) = FULL
            step(0, 1, 1, 1, 0) = 0
            told(9) = 41
            run(3) = 0
            ran(1) = 40
            stock(0) = 40
            drop(3) = 40
            drop(3) = 0
            told(9) = 1
            step(3, 1, 0, 1, 0) = 0
            """);
        Script.run("step: OP (0 .. 20); a, b, c are any", """
            step(0, -1, 0, 0, 0) = BAD
            step(0, 21, 0, 0, 0) = BAD
            step(0, -2147483648, 0, 0, 0) = BAD
            told(9) = 0
            step(0, 0, 2147483647, -2147483648, 2147483647) = 0
            step(0, 20, -2147483648, 2147483647, -2147483648) = 1
            told(9) = 2
            # BAD ahead of FULL
            40 * step(1, 1, 0, 0, 0)
            step(1, 21, 0, 0, 0) = BAD
            step(1, 20, 0, 0, 0) = FULL
            """);
        Script.run("drop: BAD; formed: BAD: 0; run: BAD", """
            drop(-1) = BAD
            drop(4) = BAD
            formed(-1) = 0
            formed(4) = 0
            run(-1) = BAD
            run(4) = BAD
            formed(0) = NONE
            formed(3) = NONE
            run(3) = 0
            ran(1) = 0
            """);
    }

    private static void wellFormed() {
        Script.run("0, 17, 18 stand where told alone: as the very first STEP they do not", """
            step(0, 0, 0, 0, 0) = 0
            formed(0) = 0
            step(1, 17, 0, 0, 0) = 0
            formed(1) = 0
            step(1, 0, 0, 0, 0) = 1
            formed(1) = 0
            step(2, 18, 0, 0, 0) = 0
            formed(2) = 0
            step(2, 0, 0, 0, 0) = 1
            formed(2) = 0
            run(0) = NO
            run(1) = NO
            run(2) = NO
            """);
        Script.run("each BODY has its END: how many STEPS, if an END lacks", """
            step(0, 1, 0, 1, 0) = 0
            step(0, 11, 0, 0, 0) = 1
            formed(0) = 2
            step(0, 1, 0, 1, 0) = 2
            formed(0) = 3
            run(0) = NO
            step(0, 0, 0, 0, 0) = 3
            formed(0) = NONE
            step(0, 0, 0, 0, 0) = 4
            formed(0) = 4
            run(0) = NO
            drop(0) = 5
            40 * step(0, 11, 0, 0, 0)
            formed(0) = 40
            drop(0) = 40
            20 * step(0, 11, 0, 0, 0)
            19 * step(0, 0, 0, 0, 0)
            formed(0) = 39
            step(0, 0, 0, 0, 0) = 39
            formed(0) = NONE
            run(0) = 0
            ran(6) = 20
            """);
        Script.run("(Empty ones are.): PLANS and BODIES", """
            formed(0) = NONE
            run(0) = 0
            ran(1) = 0
            step(0, 11, 0, 0, 0) = 0
            step(0, 0, 0, 0, 0) = 1
            step(0, 14, 0, 0, 0) = 2
            step(0, 0, 0, 0, 0) = 3
            step(0, 15, 9, 0, 0) = 4
            step(0, 0, 0, 0, 0) = 5
            step(0, 16, 0, 0, 0) = 6
            step(0, 0, 0, 0, 0) = 7
            step(0, 18, 0, 0, 0) = 8
            step(0, 0, 0, 0, 0) = 9
            step(0, 10, 1, 0, 0) = 10
            formed(0) = NONE
            run(0) = 0
            ran(1) = 5
            ran(5) = 1
            """);
        Script.run("the PLACE of the first STEP that may not stand there", """
            step(0, 11, 0, 0, 0) = 0
            step(0, 0, 0, 0, 0) = 1
            step(0, 0, 0, 0, 0) = 2
            step(0, 18, 0, 0, 0) = 3
            step(0, 0, 0, 0, 0) = 4
            step(0, 11, 0, 0, 0) = 5
            formed(0) = 2
            """);
    }

    private static void formsOfTries() {
        Script.run("right behind its END may stand any number of CATCHES, then perhaps LAST", """
            step(0, 16, 0, 0, 0) = 0
            step(0, 0, 0, 0, 0) = 1
            step(0, 17, 1, 0, 0) = 2
            step(0, 0, 0, 0, 0) = 3
            step(0, 17, 1, 0, 0) = 4
            step(0, 0, 0, 0, 0) = 5
            step(0, 17, 0, 0, 0) = 6
            step(0, 0, 0, 0, 0) = 7
            formed(0) = NONE
            step(0, 18, 0, 0, 0) = 8
            step(0, 0, 0, 0, 0) = 9
            formed(0) = NONE
            step(0, 18, 0, 0, 0) = 10
            formed(0) = 10
            """);
        Script.run("a CATCH or LAST behind a STEP between, behind LAST, behind another BODY's END", """
            step(0, 16, 0, 0, 0) = 0
            step(0, 0, 0, 0, 0) = 1
            step(0, 1, 0, 0, 0) = 2
            step(0, 18, 0, 0, 0) = 3
            formed(0) = 3
            step(1, 16, 0, 0, 0) = 0
            step(1, 0, 0, 0, 0) = 1
            step(1, 18, 0, 0, 0) = 2
            step(1, 0, 0, 0, 0) = 3
            step(1, 17, 0, 0, 0) = 4
            formed(1) = 4
            step(2, 19, 0, 0, 0) = 0
            step(2, 0, 0, 0, 0) = 1
            step(2, 17, 0, 0, 0) = 2
            formed(2) = 2
            # behind the END of a BODY that is within the TRY's
            step(3, 16, 0, 0, 0) = 0
            step(3, 14, 0, 0, 0) = 1
            step(3, 0, 0, 0, 0) = 2
            step(3, 17, 0, 0, 0) = 3
            formed(3) = 3
            drop(3) = 4
            # as the first of the TRY's own BODY, of a CATCH's, of a LAST's
            step(3, 16, 0, 0, 0) = 0
            step(3, 18, 0, 0, 0) = 1
            formed(3) = 1
            drop(3) = 2
            step(3, 16, 0, 0, 0) = 0
            step(3, 0, 0, 0, 0) = 1
            step(3, 17, 0, 0, 0) = 2
            step(3, 17, 0, 0, 0) = 3
            formed(3) = 3
            drop(3) = 4
            step(3, 16, 0, 0, 0) = 0
            step(3, 0, 0, 0, 0) = 1
            step(3, 18, 0, 0, 0) = 2
            step(3, 18, 0, 0, 0) = 3
            formed(3) = 3
            """);
        Script.run("a TRY as the last of a BODY: the CATCH behind the outer END is the outer one's", """
            step(0, 16, 0, 0, 0) = 0
            step(0, 16, 0, 0, 0) = 1
            step(0, 7, 1, 0, 0) = 2
            step(0, 0, 0, 0, 0) = 3
            step(0, 0, 0, 0, 0) = 4
            step(0, 17, 8, 0, 0) = 5
            step(0, 1, 0, 1, 0) = 6
            step(0, 0, 0, 0, 0) = 7
            formed(0) = NONE
            run(0) = 0
            stock(0) = 1
            ran(4) = 1
            """);
    }

    private static void stockAndValves() {
        Script.run("STOCK 0 .. 5 are longs (0 at first)", """
            stock(0) = 0
            stock(5) = 0
            stock(-1) = 0
            stock(6) = 0
            setStock(-1, 1) = BAD
            setStock(6, 1) = BAD
            setStock(2147483647, 1) = BAD
            setStock(0, 0x8000000000000000) = 1
            setStock(5, 0x7FFFFFFFFFFFFFFF) = 1
            stock(0) = 0x8000000000000000
            stock(5) = 0x7FFFFFFFFFFFFFFF
            stock(1) = 0
            stock(4) = 0
            stock(6) = 0
            """);
        Script.run("VALVES 0 .. 2 have a PLACE (0) and are HELD 0 or more times", """
            valve(0, 0) = 0
            valve(2, 1) = 0
            step(0, 13, 0, 1, 10) = 0
            step(0, 0, 0, 0, 0) = 1
            step(0, 13, 2, 1, -2147483648) = 2
            step(0, 0, 0, 0, 0) = 3
            run(0) = 0
            valve(0, 0) = 10
            valve(1, 0) = 0
            valve(2, 0) = -2147483648
            valve(-1, 0) = 0
            valve(3, 0) = 0
            valve(0, -1) = 0
            valve(0, 2) = 0
            valve(2, 2) = 0
            told(2) = 0
            """);
    }

    private static void numbersThatAreNone() {
        Script.run("STOCK's, VALVE's, BIN's numbers that are none: INDEX, where a STEP needs one", """
            step(0, 1, 6, 0, 0) = 0
            run(0) = -12
            drop(0) = 1
            step(0, 1, -1, 0, 0) = 0
            run(0) = -12
            drop(0) = 1
            step(0, 2, 6, 1, 0) = 0
            run(0) = -12
            drop(0) = 1
            step(0, 2, -1, 0, 0) = 0
            run(0) = -12
            drop(0) = 1
            step(0, 9, 3, 0, 0) = 0
            run(0) = -12
            drop(0) = 1
            step(0, 9, -1, 0, 0) = 0
            run(0) = -12
            drop(0) = 1
            step(0, 3, 16, 0, 0) = 0
            run(0) = -12
            drop(0) = 1
            step(0, 3, -1, 0, 0) = 0
            run(0) = -12
            drop(0) = 1
            step(0, 4, 16, 0, 0) = 0
            run(0) = -12
            drop(0) = 1
            step(0, 5, 16, 0, 0) = 0
            run(0) = -12
            drop(0) = 1
            step(0, 6, 16, 0, 0) = 0
            run(0) = -12
            drop(0) = 1
            step(0, 10, 4, 0, 0) = 0
            run(0) = -12
            drop(0) = 1
            step(0, 10, -1, 0, 0) = 0
            run(0) = -12
            ran(7) = 0
            ran(2) = 0
            ran(1) = 1
            told(2) = 13
            """);
        Script.run("STEPS with a BODY: INDEX, too, and the BODY is not begun", """
            setStock(0, 1) = 1
            step(1, 11, -1, 0, 0) = 0
            step(1, 1, 1, 1, 0) = 1
            step(1, 0, 0, 0, 0) = 2
            run(1) = -12
            ran(1) = 1
            ran(6) = 0
            drop(1) = 3
            step(1, 11, 3, 0, 0) = 0
            step(1, 0, 0, 0, 0) = 1
            run(1) = -12
            drop(1) = 2
            step(1, 12, -1, 0, 0) = 0
            step(1, 0, 0, 0, 0) = 1
            run(1) = -12
            drop(1) = 2
            step(1, 12, 6, -1, 0) = 0
            step(1, 0, 0, 0, 0) = 1
            run(1) = -12
            drop(1) = 2
            step(1, 13, 3, 0, 0) = 0
            step(1, 0, 0, 0, 0) = 1
            run(1) = -12
            drop(1) = 2
            step(1, 19, -1, 0, 0) = 0
            step(1, 0, 0, 0, 0) = 1
            run(1) = -12
            drop(1) = 2
            step(1, 20, 6, 0, 0) = 0
            step(1, 0, 0, 0, 0) = 1
            run(1) = -12
            ran(1) = 1
            # KEEP and TRY need none
            drop(1) = 2
            step(1, 14, 99, 99, 99) = 0
            step(1, 16, -99, -99, -99) = 1
            step(1, 0, 99, 0, 0) = 2
            step(1, 18, 99, 0, 0) = 3
            step(1, 0, 0, 0, 0) = 4
            step(1, 0, 0, 0, 0) = 5
            run(1) = 0
            """);
    }

    private static void whatBinsHold() {
        Script.run("a ahead of b, c, and of what the BIN holds", """
            row(0, 5, 1) = 1
            row(1, 4, 1) = 1
            step(0, 4, 0, 0, 6) = 0
            run(0) = -12
            drop(0) = 1
            step(0, 4, 0, 0, -1) = 0
            run(0) = -12
            drop(0) = 1
            step(0, 4, 0, 9, 5) = 0
            run(0) = -14
            drop(0) = 1
            step(0, 4, 15, 9, 0) = 0
            run(0) = -11
            drop(0) = 1
            step(0, 4, 1, 1, 0) = 0
            run(0) = -12
            drop(0) = 1
            step(0, 4, 1, -1, 0) = 0
            run(0) = -12
            drop(0) = 1
            step(0, 4, 1, 0, 5) = 0
            run(0) = 0
            drop(0) = 1
            step(0, 3, 0, 9, 1) = 0
            run(0) = -14
            drop(0) = 1
            step(0, 3, 15, 9, 1) = 0
            run(0) = -11
            drop(0) = 1
            step(0, 3, 1, 1, 1) = 0
            run(0) = -12
            drop(0) = 1
            step(0, 3, 1, -1, 1) = 0
            run(0) = -12
            drop(0) = 1
            # the first CELL
            step(0, 3, 1, 0, -2147483648) = 0
            step(0, 4, 1, 0, 5) = 1
            run(0) = 0
            get(1, 4, 0) = -2147483648
            stock(5) = -2147483648
            """);
        Script.run("the int of BIN a's CARD", """
            row(0, 4, 1) = 1
            card(1) = 0
            setField(1, 5, 7) = 1
            step(0, 5, 0, 9, 0) = 0
            run(0) = -14
            drop(0) = 1
            step(0, 5, 15, 9, 0) = 0
            run(0) = -11
            drop(0) = 1
            step(0, 5, 1, -2147483648, 0) = 0
            run(0) = 0
            field(1, 4) = -2147483648
            field(1, 5) = 7
            field(1, 3) = 0
            """);
        Script.run("ASK b (0 SIZE, 1 THIRST, 2 COST, 3 MARK; else INDEX)", """
            plant(0, 1, 10, 1, 0, 0) = 0
            step(0, 6, 0, 0, 0) = 0
            step(0, 6, 0, 1, 1) = 1
            step(0, 6, 0, 2, 2) = 2
            step(0, 6, 0, 3, 5) = 3
            run(0) = 0
            stock(0) = 21
            stock(1) = 48
            stock(2) = 500
            stock(5) = 7
            drop(0) = 4
            step(0, 6, 0, -1, 0) = 0
            run(0) = -12
            drop(0) = 1
            step(0, 6, 0, 4, 0) = 0
            run(0) = -12
            drop(0) = 1
            step(0, 6, 0, 0, -1) = 0
            run(0) = -12
            drop(0) = 1
            step(0, 6, 0, 0, 6) = 0
            run(0) = -12
            drop(0) = 1
            # ahead of what the BIN holds
            step(0, 6, 15, 4, 0) = 0
            run(0) = -12
            drop(0) = 1
            step(0, 6, 15, 0, 6) = 0
            run(0) = -12
            drop(0) = 1
            step(0, 6, 15, 0, 0) = 0
            run(0) = -11
            drop(0) = 1
            card(1) = 0
            step(0, 6, 1, 3, 0) = 0
            run(0) = -14
            stock(0) = 21
            """);
    }

    private static void amounts() {
        Script.run("ADD: STOCK a is more by b (wraps)", """
            setStock(0, 0x7FFFFFFFFFFFFFFF) = 1
            setStock(5, 0x8000000000000000) = 1
            step(0, 1, 0, 1, 0) = 0
            step(0, 1, 5, -1, 0) = 1
            step(0, 1, 1, 2147483647, 0) = 2
            step(0, 1, 2, -2147483648, 0) = 3
            run(0) = 0
            stock(0) = 0x8000000000000000
            stock(5) = 0x7FFFFFFFFFFFFFFF
            stock(1) = 2147483647
            stock(2) = -2147483648
            run(0) = 0
            # ints by longs do not wrap
            stock(1) = 4294967294
            stock(2) = -4294967296
            """);
        Script.run("OVER: STOCK a by b, cut (ZERO)", """
            setStock(0, -7) = 1
            setStock(1, 0x8000000000000000) = 1
            setStock(2, 7) = 1
            step(0, 2, 0, 2, 0) = 0
            step(0, 2, 1, -1, 0) = 1
            step(0, 2, 2, -8, 0) = 2
            run(0) = 0
            stock(0) = -3
            stock(1) = 0x8000000000000000
            stock(2) = 0
            drop(0) = 3
            step(0, 2, 2, 0, 0) = 0
            run(0) = -16
            fault() = 6
            ran(7) = 0
            """);
        Script.run("FAIL: OWN with number a; ANSWER a: any", """
            step(0, 7, -2147483648, 0, 0) = 0
            run(0) = -18
            ran(7) = -2147483648
            ran(0) = 0
            step(1, 8, -2147483648, 0, 0) = 0
            step(1, 7, 5, 0, 0) = 1
            run(1) = 1
            ran(0) = -2147483648
            ran(7) = 0
            ran(2) = NONE
            ran(1) = 1
            """);
        Script.run("WAKE: STATE, if VALVE a is not HELD", """
            step(0, 9, 0, 0, 0) = 0
            run(0) = -17
            ran(7) = 0
            drop(0) = 1
            step(0, 11, 1, 0, 0) = 0
            step(0, 9, 1, 0, 0) = 1
            step(0, 11, 1, 0, 0) = 2
            step(0, 0, 0, 0, 0) = 3
            # HELD once yet
            step(0, 9, 1, 0, 0) = 4
            step(0, 9, 2, 0, 0) = 5
            step(0, 0, 0, 0, 0) = 6
            run(0) = -17
            ran(2) = 5
            ran(6) = 2
            fault() = 7
            """);
    }

    private static void takesAndTimes() {
        Script.run("TAKE: OWN 97, if it is less than b, or b below 0", """
            setStock(0, 4) = 1
            step(0, 12, 0, 4, 0) = 0
            step(0, 1, 1, 1, 0) = 1
            step(0, 0, 0, 0, 0) = 2
            run(0) = 0
            stock(0) = 4
            stock(1) = 1
            setStock(0, 3) = 1
            run(0) = -18
            ran(7) = 97
            ran(2) = 0
            ran(1) = 1
            stock(0) = 3
            stock(1) = 1
            drop(0) = 3
            step(0, 12, 0, 0, 0) = 0
            step(0, 0, 0, 0, 0) = 1
            run(0) = 0
            setStock(0, 0) = 1
            run(0) = 0
            setStock(0, -1) = 1
            run(0) = -18
            ran(7) = 97
            setStock(0, 0x7FFFFFFFFFFFFFFF) = 1
            drop(0) = 2
            step(0, 12, 0, -1, 0) = 0
            step(0, 0, 0, 0, 0) = 1
            run(0) = -18
            ran(7) = 97
            drop(0) = 2
            step(0, 12, 0, -2147483648, 0) = 0
            step(0, 0, 0, 0, 0) = 1
            run(0) = -18
            stock(0) = 0x7FFFFFFFFFFFFFFF
            """);
        Script.run("TAKE: less by b within, and more by it behind the BODY (wraps)", """
            row(0, 4, 1) = 1
            setStock(0, 10) = 1
            step(0, 12, 0, 10, 0) = 0
            step(0, 19, 0, 0, 0) = 1
            step(0, 7, 1, 0, 0) = 2
            step(0, 0, 0, 0, 0) = 3
            step(0, 1, 0, -3, 0) = 4
            step(0, 0, 0, 0, 0) = 5
            run(0) = 0
            stock(0) = 7
            drop(0) = 6
            setStock(0, 0x7FFFFFFFFFFFFFFF) = 1
            step(0, 12, 0, 1, 0) = 0
            step(0, 1, 0, 1, 0) = 1
            step(0, 0, 0, 0, 0) = 2
            run(0) = 0
            stock(0) = 0x8000000000000000
            """);
        Script.run("AGAIN: a times at most (below 1 and above 9: OWN 96)", """
            step(0, 15, 0, 0, 0) = 0
            step(0, 0, 0, 0, 0) = 1
            run(0) = -18
            ran(7) = 96
            ran(1) = 1
            drop(0) = 2
            step(0, 15, 10, 0, 0) = 0
            step(0, 1, 0, 1, 0) = 1
            step(0, 0, 0, 0, 0) = 2
            run(0) = -18
            ran(7) = 96
            ran(1) = 1
            drop(0) = 3
            step(0, 15, -2147483648, 0, 0) = 0
            step(0, 0, 0, 0, 0) = 1
            run(0) = -18
            ran(7) = 96
            drop(0) = 2
            step(0, 15, 1, 0, 0) = 0
            step(0, 7, 5, 0, 0) = 1
            step(0, 0, 0, 0, 0) = 2
            run(0) = -18
            ran(7) = 5
            ran(8) = 1
            ran(1) = 2
            drop(0) = 3
            step(0, 15, 9, 0, 0) = 0
            step(0, 7, 5, 0, 0) = 1
            step(0, 0, 0, 0, 0) = 2
            run(0) = -18
            ran(7) = 5
            ran(8) = 9
            ran(1) = 18
            """);
    }

    private static void dos() {
        Script.run("DO: one that is not WELL FORMED: OWN 98, then within six other DOs: OWN 99", """
            step(0, 10, 0, 0, 0) = 0
            run(0) = -18
            ran(7) = 99
            ran(1) = 7
            ran(2) = 0
            # the innermost DO is of one that is not WELL FORMED
            drop(0) = 1
            step(3, 0, 0, 0, 0) = 0
            step(0, 19, 0, 0, 0) = 0
            step(0, 1, 0, -1, 0) = 1
            step(0, 10, 0, 0, 0) = 2
            step(0, 8, 1, 0, 0) = 3
            step(0, 0, 0, 0, 0) = 4
            step(0, 10, 3, 0, 0) = 5
            setStock(0, 6) = 1
            run(0) = -18
            ran(7) = 98
            ran(2) = 5
            # six DOs are not too many
            drop(3) = 1
            step(3, 1, 1, 1, 0) = 0
            setStock(0, 5) = 1
            run(0) = 1
            stock(1) = 1
            setStock(0, 6) = 1
            run(0) = -18
            ran(7) = 99
            ran(2) = 5
            stock(1) = 1
            """);
        Script.run("within six other DOs: those that are done are not counted", """
            setStock(0, 20) = 1
            step(0, 20, 0, 0, 0) = 0
            step(0, 1, 0, -1, 0) = 1
            step(0, 10, 1, 0, 0) = 2
            step(0, 0, 0, 0, 0) = 3
            step(1, 1, 1, 1, 0) = 0
            run(0) = 0
            stock(1) = 20
            # nor those out of which a FAULT went
            drop(0) = 4
            drop(1) = 1
            setStock(0, 20) = 1
            step(0, 20, 0, 0, 0) = 0
            step(0, 1, 0, -1, 0) = 1
            step(0, 16, 0, 0, 0) = 2
            step(0, 10, 1, 0, 0) = 3
            step(0, 0, 0, 0, 0) = 4
            step(0, 17, 6, 0, 0) = 5
            step(0, 0, 0, 0, 0) = 6
            step(0, 0, 0, 0, 0) = 7
            step(1, 2, 1, 0, 0) = 0
            run(0) = 0
            ran(4) = 20
            """);
        Script.run("DO: the STEPS of PLAN a, also none", """
            step(0, 10, 3, 0, 0) = 0
            step(0, 1, 0, 1, 0) = 1
            run(0) = 0
            ran(1) = 2
            stock(0) = 1
            """);
    }

    private static void keeps() {
        Script.run("KEEP: behind a FAULT that goes out; one that is met within it does not go out", """
            step(0, 14, 0, 0, 0) = 0
            step(0, 1, 0, 1, 0) = 1
            step(0, 16, 0, 0, 0) = 2
            step(0, 1, 0, 10, 0) = 3
            step(0, 7, 0, 0, 0) = 4
            step(0, 0, 0, 0, 0) = 5
            step(0, 17, 0, 0, 0) = 6
            step(0, 0, 0, 0, 0) = 7
            step(0, 0, 0, 0, 0) = 8
            run(0) = 0
            stock(0) = 11
            """);
        Script.run("KEEP: all CELLS, CARDS and STOCK, each as ahead of it, however often it changed", """
            row(0, 4, 2) = 1
            put(0, 4, 0, 5) = 1
            put(0, 4, 1, 6) = 1
            card(1) = 0
            setField(1, 4, 7) = 1
            setStock(0, 8) = 1
            setStock(5, 9) = 1
            step(0, 16, 0, 0, 0) = 0
            step(0, 3, 0, 0, 50) = 1
            step(0, 14, 0, 0, 0) = 2
            step(0, 3, 0, 0, 51) = 3
            step(0, 3, 0, 1, 61) = 4
            step(0, 3, 0, 0, 52) = 5
            step(0, 5, 1, 71, 0) = 6
            step(0, 5, 1, 72, 0) = 7
            step(0, 1, 0, 1, 0) = 8
            step(0, 1, 0, 1, 0) = 9
            step(0, 2, 5, 3, 0) = 10
            step(0, 4, 0, 0, 4) = 11
            step(0, 9, 0, 0, 0) = 12
            step(0, 0, 0, 0, 0) = 13
            step(0, 0, 0, 0, 0) = 14
            step(0, 17, 7, 0, 0) = 15
            step(0, 0, 0, 0, 0) = 16
            run(0) = 0
            get(0, 4, 0) = 50
            get(0, 4, 1) = 6
            field(1, 4) = 7
            stock(0) = 8
            stock(5) = 9
            stock(4) = 0
            """);
        Script.run("KEEP in KEEP: the outer one undoes what the inner one let stand", """
            step(0, 16, 0, 0, 0) = 0
            step(0, 14, 0, 0, 0) = 1
            step(0, 14, 0, 0, 0) = 2
            step(0, 1, 0, 1, 0) = 3
            step(0, 0, 0, 0, 0) = 4
            step(0, 16, 0, 0, 0) = 5
            step(0, 14, 0, 0, 0) = 6
            step(0, 1, 1, 1, 0) = 7
            step(0, 7, 1, 0, 0) = 8
            step(0, 0, 0, 0, 0) = 9
            step(0, 0, 0, 0, 0) = 10
            step(0, 17, 0, 0, 0) = 11
            step(0, 1, 2, 1, 0) = 12
            step(0, 0, 0, 0, 0) = 13
            step(0, 7, 2, 0, 0) = 14
            step(0, 0, 0, 0, 0) = 15
            step(0, 0, 0, 0, 0) = 16
            step(0, 17, 0, 0, 0) = 17
            step(0, 1, 3, 1, 0) = 18
            step(0, 0, 0, 0, 0) = 19
            run(0) = 0
            stock(0) = 0
            stock(1) = 0
            stock(2) = 0
            stock(3) = 1
            """);
        Script.run("A RUN is as KEEP, but for VALVES' PLACES", """
            row(0, 4, 1) = 1
            put(0, 4, 0, 1) = 1
            card(1) = 0
            step(0, 3, 0, 0, 2) = 0
            step(0, 5, 1, 2, 0) = 1
            step(0, 1, 5, 2, 0) = 2
            step(0, 13, 2, 2, 3) = 3
            step(0, 0, 0, 0, 0) = 4
            step(0, 9, 0, 0, 0) = 5
            run(0) = -17
            get(0, 4, 0) = 1
            field(1, 4) = 0
            stock(5) = 0
            valve(2, 0) = 3
            # an ANSWER undoes nothing
            drop(0) = 6
            step(0, 3, 0, 0, 2) = 0
            step(0, 5, 1, 2, 0) = 1
            step(0, 1, 5, 2, 0) = 2
            step(0, 8, 0, 0, 0) = 3
            run(0) = 1
            get(0, 4, 0) = 2
            field(1, 4) = 2
            stock(5) = 2
            """);
        Script.run("A RUN is as KEEP, also behind many others", """
            setStock(0, 1) = 1
            step(0, 20, 0, 0, 0) = 0
            step(0, 1, 1, 1, 0) = 1
            step(0, 0, 0, 0, 0) = 2
            9 * run(0)
            stock(1) = 1350
            step(1, 1, 1, 7, 0) = 0
            step(1, 7, 0, 0, 0) = 1
            run(1) = -18
            stock(1) = 1350
            """);
    }

    private static void agains() {
        Script.run("AGAIN: the BODY as of KEEP: what a time before did is undone", """
            row(0, 4, 1) = 1
            setStock(0, 5) = 1
            step(0, 15, 3, 0, 0) = 0
            step(0, 3, 0, 0, 4) = 1
            step(0, 12, 0, 2, 0) = 2
            step(0, 1, 1, 1, 0) = 3
            step(0, 1, 0, 100, 0) = 4
            step(0, 7, 1, 0, 0) = 5
            step(0, 0, 0, 0, 0) = 6
            step(0, 0, 0, 0, 0) = 7
            step(1, 16, 0, 0, 0) = 0
            step(1, 10, 0, 0, 0) = 1
            step(1, 0, 0, 0, 0) = 2
            step(1, 17, 8, 0, 0) = 3
            step(1, 0, 0, 0, 0) = 4
            run(1) = 0
            # TRY, DO, and three times AGAIN, LAY, TAKE, ADD, ADD, FAIL
            ran(1) = 20
            ran(8) = 3
            ran(4) = 1
            stock(0) = 5
            stock(1) = 0
            get(0, 4, 0) = 0
            """);
        Script.run("AGAIN: behind a FAULT again, till one time has none", """
            row(0, 4, 1) = 1
            step(0, 15, 9, 0, 0) = 0
            step(0, 13, 0, 1, 5) = 1
            step(0, 16, 0, 0, 0) = 2
            step(0, 2, 0, 0, 0) = 3
            step(0, 0, 0, 0, 0) = 4
            step(0, 18, 0, 0, 0) = 5
            step(0, 1, 1, 1, 0) = 6
            step(0, 0, 0, 0, 0) = 7
            step(0, 0, 0, 0, 0) = 8
            step(0, 0, 0, 0, 0) = 9
            run(0) = -16
            ran(5) = 9
            ran(8) = 9
            ran(1) = 45
            # (that FAULT is no CAUSE then)
            ran(3) = 0
            valve(0, 0) = 5
            stock(1) = 0
            """);
        Script.run("AGAIN in AGAIN", """
            step(0, 15, 2, 0, 0) = 0
            step(0, 15, 3, 0, 0) = 1
            step(0, 7, 1, 0, 0) = 2
            step(0, 0, 0, 0, 0) = 3
            step(0, 0, 0, 0, 0) = 4
            run(0) = -18
            ran(8) = 6
            ran(1) = 14
            ran(3) = 0
            """);
        Script.run("AGAIN: an ANSWER ends the whole RUN at once", """
            step(0, 15, 9, 0, 0) = 0
            step(0, 1, 0, 1, 0) = 1
            step(0, 8, 3, 0, 0) = 2
            step(0, 0, 0, 0, 0) = 3
            step(0, 1, 0, 1, 0) = 4
            run(0) = 1
            ran(0) = 3
            ran(1) = 3
            stock(0) = 1
            """);
    }

    private static void tries() {
        Script.run("CATCH a (1 to 8 a FAULT, 0 any): of each kind its own", """
            row(0, 5, 1) = 1
            step(0, 16, 0, 0, 0) = 0
            step(0, 10, 1, 0, 0) = 1
            step(0, 0, 0, 0, 0) = 2
            step(0, 17, 1, 0, 0) = 3
            step(0, 8, 1, 0, 0) = 4
            step(0, 0, 0, 0, 0) = 5
            step(0, 17, 2, 0, 0) = 6
            step(0, 8, 2, 0, 0) = 7
            step(0, 0, 0, 0, 0) = 8
            step(0, 17, 4, 0, 0) = 9
            step(0, 8, 4, 0, 0) = 10
            step(0, 0, 0, 0, 0) = 11
            step(0, 17, 6, 0, 0) = 12
            step(0, 8, 6, 0, 0) = 13
            step(0, 0, 0, 0, 0) = 14
            step(0, 17, 7, 0, 0) = 15
            step(0, 8, 7, 0, 0) = 16
            step(0, 0, 0, 0, 0) = 17
            step(0, 17, 8, 0, 0) = 18
            step(0, 8, 8, 0, 0) = 19
            step(0, 0, 0, 0, 0) = 20
            step(1, 3, 15, 0, 0) = 0
            run(0) = 1
            ran(0) = 1
            drop(1) = 1
            step(1, 1, 6, 0, 0) = 0
            run(0) = 1
            ran(0) = 2
            drop(1) = 1
            step(1, 3, 0, 0, 0) = 0
            run(0) = 1
            ran(0) = 4
            drop(1) = 1
            step(1, 2, 0, 0, 0) = 0
            run(0) = 1
            ran(0) = 6
            drop(1) = 1
            step(1, 9, 0, 0, 0) = 0
            run(0) = 1
            ran(0) = 7
            drop(1) = 1
            step(1, 7, 0, 0, 0) = 0
            run(0) = 1
            ran(0) = 8
            drop(1) = 1
            # OWN 98 is an OWN, too
            step(1, 0, 0, 0, 0) = 0
            run(0) = 1
            ran(0) = 8
            told(2) = 7
            fault() = 0
            """);
        Script.run("met by the first of its CATCHES that is for it; 0 is for any", """
            step(0, 16, 0, 0, 0) = 0
            step(0, 2, 0, 0, 0) = 1
            step(0, 0, 0, 0, 0) = 2
            step(0, 17, 7, 0, 0) = 3
            step(0, 1, 0, 1, 0) = 4
            step(0, 0, 0, 0, 0) = 5
            step(0, 17, 0, 0, 0) = 6
            step(0, 1, 1, 1, 0) = 7
            step(0, 0, 0, 0, 0) = 8
            step(0, 17, 6, 0, 0) = 9
            step(0, 1, 2, 1, 0) = 10
            step(0, 0, 0, 0, 0) = 11
            run(0) = 0
            stock(0) = 0
            stock(1) = 1
            stock(2) = 0
            ran(4) = 1
            """);
        Script.run("numbers of a CATCH that are no FAULT's are for none", """
            step(0, 16, 0, 0, 0) = 0
            step(0, 2, 0, 0, 0) = 1
            step(0, 0, 0, 0, 0) = 2
            step(0, 17, 9, 0, 0) = 3
            step(0, 0, 0, 0, 0) = 4
            step(0, 17, -1, 0, 0) = 5
            step(0, 0, 0, 0, 0) = 6
            step(0, 17, -16, 0, 0) = 7
            step(0, 0, 0, 0, 0) = 8
            formed(0) = NONE
            run(0) = -16
            ran(4) = 0
            """);
        Script.run("without a FAULT no CATCH is done; an ANSWER is met by none", """
            step(0, 16, 0, 0, 0) = 0
            step(0, 19, 0, 0, 0) = 1
            step(0, 8, 3, 0, 0) = 2
            step(0, 0, 0, 0, 0) = 3
            step(0, 0, 0, 0, 0) = 4
            step(0, 17, 0, 0, 0) = 5
            step(0, 1, 1, 1, 0) = 6
            step(0, 0, 0, 0, 0) = 7
            run(0) = 0
            stock(1) = 0
            ran(4) = 0
            setStock(0, 1) = 1
            run(0) = 1
            stock(1) = 0
            ran(4) = 0
            """);
    }

    private static void causes() {
        Script.run("A FAULT that goes on through another TRY keeps its CAUSE", """
            step(0, 16, 0, 0, 0) = 0
            step(0, 10, 1, 0, 0) = 1
            step(0, 0, 0, 0, 0) = 2
            step(0, 17, 8, 0, 0) = 3
            step(0, 0, 0, 0, 0) = 4
            step(0, 18, 0, 0, 0) = 5
            step(0, 16, 0, 0, 0) = 6
            step(0, 7, 1, 0, 0) = 7
            step(0, 0, 0, 0, 0) = 8
            step(0, 17, 0, 0, 0) = 9
            step(0, 0, 0, 0, 0) = 10
            step(0, 0, 0, 0, 0) = 11
            step(1, 16, 0, 0, 0) = 0
            step(1, 9, 0, 0, 0) = 1
            step(1, 0, 0, 0, 0) = 2
            step(1, 17, 0, 0, 0) = 3
            step(1, 2, 0, 0, 0) = 4
            step(1, 0, 0, 0, 0) = 5
            run(0) = -16
            ran(3) = 7
            ran(2) = 4
            ran(4) = 2
            ran(5) = 1
            ran(7) = 0
            """);
        Script.run("(else none): what arises behind a TRY whose CATCH met a FAULT", """
            step(0, 16, 0, 0, 0) = 0
            step(0, 9, 0, 0, 0) = 1
            step(0, 0, 0, 0, 0) = 2
            step(0, 17, 0, 0, 0) = 3
            step(0, 0, 0, 0, 0) = 4
            step(0, 18, 0, 0, 0) = 5
            step(0, 2, 0, 0, 0) = 6
            step(0, 0, 0, 0, 0) = 7
            # out of LAST, in place of nothing
            run(0) = -16
            ran(3) = 0
            ran(8) = 2
            drop(0) = 8
            step(0, 16, 0, 0, 0) = 0
            step(0, 9, 0, 0, 0) = 1
            step(0, 0, 0, 0, 0) = 2
            step(0, 17, 0, 0, 0) = 3
            step(0, 0, 0, 0, 0) = 4
            step(0, 2, 0, 0, 0) = 5
            run(0) = -16
            ran(3) = 0
            """);
        Script.run("CAUSE: out of a LAST in place of the one out of a CATCH", """
            step(0, 16, 0, 0, 0) = 0
            step(0, 9, 0, 0, 0) = 1
            step(0, 0, 0, 0, 0) = 2
            step(0, 17, 7, 0, 0) = 3
            step(0, 2, 0, 0, 0) = 4
            step(0, 0, 0, 0, 0) = 5
            step(0, 18, 0, 0, 0) = 6
            step(0, 1, 9, 0, 0) = 7
            step(0, 0, 0, 0, 0) = 8
            run(0) = -12
            ran(3) = 6
            ran(2) = 7
            ran(8) = 3
            """);
        Script.run("CAUSE: out of a CATCH's BODY the one that it met, whatever came between", """
            step(0, 16, 0, 0, 0) = 0
            step(0, 9, 0, 0, 0) = 1
            step(0, 0, 0, 0, 0) = 2
            step(0, 17, 7, 0, 0) = 3
            step(0, 16, 0, 0, 0) = 4
            step(0, 1, 9, 0, 0) = 5
            step(0, 0, 0, 0, 0) = 6
            step(0, 17, 2, 0, 0) = 7
            step(0, 2, 0, 0, 0) = 8
            step(0, 0, 0, 0, 0) = 9
            step(0, 0, 0, 0, 0) = 10
            run(0) = -16
            ran(3) = 7
            ran(4) = 2
            ran(8) = 3
            """);
        Script.run("CAUSE: a TRY that is begun again knows nothing of what it met before", """
            step(0, 15, 2, 0, 0) = 0
            step(0, 16, 0, 0, 0) = 1
            step(0, 9, 0, 0, 0) = 2
            step(0, 0, 0, 0, 0) = 3
            step(0, 18, 0, 0, 0) = 4
            step(0, 0, 0, 0, 0) = 5
            step(0, 0, 0, 0, 0) = 6
            run(0) = -17
            ran(3) = 0
            ran(5) = 2
            """);
    }

    private static void lasts() {
        Script.run("LAST's BODY is done behind that, whatever way is gone", """
            setStock(0, 1) = 1
            step(0, 16, 0, 0, 0) = 0
            step(0, 8, 4, 0, 0) = 1
            step(0, 0, 0, 0, 0) = 2
            step(0, 18, 0, 0, 0) = 3
            step(0, 1, 1, 1, 0) = 4
            step(0, 0, 0, 0, 0) = 5
            step(0, 1, 2, 1, 0) = 6
            run(0) = 1
            ran(0) = 4
            stock(1) = 1
            stock(2) = 0
            # an ANSWER out of a DO goes by the LAST, too
            drop(0) = 7
            step(1, 8, 6, 0, 0) = 0
            step(0, 16, 0, 0, 0) = 0
            step(0, 10, 1, 0, 0) = 1
            step(0, 0, 0, 0, 0) = 2
            step(0, 18, 0, 0, 0) = 3
            step(0, 1, 1, 1, 0) = 4
            step(0, 0, 0, 0, 0) = 5
            run(0) = 1
            ran(0) = 6
            stock(1) = 2
            """);
        Script.run("an ANSWER out of it goes on in place of what went", """
            step(0, 14, 0, 0, 0) = 0
            step(0, 1, 0, 1, 0) = 1
            step(0, 16, 0, 0, 0) = 2
            step(0, 7, 1, 0, 0) = 3
            step(0, 0, 0, 0, 0) = 4
            step(0, 18, 0, 0, 0) = 5
            step(0, 8, 2, 0, 0) = 6
            step(0, 0, 0, 0, 0) = 7
            step(0, 0, 0, 0, 0) = 8
            run(0) = 1
            ran(0) = 2
            ran(2) = NONE
            ran(3) = 0
            ran(7) = 0
            ran(8) = 1
            stock(0) = 1
            fault() = 0
            told(2) = 1
            # of two ANSWERS the later one
            step(1, 16, 0, 0, 0) = 0
            step(1, 8, 1, 0, 0) = 1
            step(1, 0, 0, 0, 0) = 2
            step(1, 18, 0, 0, 0) = 3
            step(1, 8, 2, 0, 0) = 4
            step(1, 0, 0, 0, 0) = 5
            run(1) = 1
            ran(0) = 2
            """);
        Script.run("a FAULT out of it goes on in place of an ANSWER: no CAUSE, no ANSWER", """
            step(0, 1, 0, 1, 0) = 0
            step(0, 16, 0, 0, 0) = 1
            step(0, 8, 3, 0, 0) = 2
            step(0, 0, 0, 0, 0) = 3
            step(0, 18, 0, 0, 0) = 4
            step(0, 7, 9, 0, 0) = 5
            step(0, 0, 0, 0, 0) = 6
            run(0) = -18
            ran(0) = 0
            ran(3) = 0
            ran(7) = 9
            stock(0) = 0
            """);
        Script.run("what a LAST met within itself does not go on", """
            step(0, 16, 0, 0, 0) = 0
            step(0, 7, 5, 0, 0) = 1
            step(0, 0, 0, 0, 0) = 2
            step(0, 18, 0, 0, 0) = 3
            step(0, 16, 0, 0, 0) = 4
            step(0, 2, 0, 0, 0) = 5
            step(0, 0, 0, 0, 0) = 6
            step(0, 17, 0, 0, 0) = 7
            step(0, 0, 0, 0, 0) = 8
            step(0, 0, 0, 0, 0) = 9
            run(0) = -18
            ran(2) = 1
            ran(3) = 0
            ran(7) = 5
            ran(8) = 2
            fault() = 8
            """);
    }

    private static void loops() {
        Script.run("IF: the BODY, if STOCK a is above 0; LOOP: as IF, again and again", """
            setStock(0, 1) = 1
            setStock(1, 0) = 1
            setStock(2, -1) = 1
            setStock(3, 0x8000000000000000) = 1
            step(0, 19, 0, 0, 0) = 0
            step(0, 1, 4, 1, 0) = 1
            step(0, 0, 0, 0, 0) = 2
            step(0, 19, 1, 0, 0) = 3
            step(0, 1, 4, 10, 0) = 4
            step(0, 0, 0, 0, 0) = 5
            step(0, 19, 2, 0, 0) = 6
            step(0, 1, 4, 100, 0) = 7
            step(0, 0, 0, 0, 0) = 8
            step(0, 20, 1, 0, 0) = 9
            step(0, 1, 4, 1000, 0) = 10
            step(0, 0, 0, 0, 0) = 11
            step(0, 20, 3, 0, 0) = 12
            step(0, 1, 4, 10000, 0) = 13
            step(0, 0, 0, 0, 0) = 14
            step(0, 20, 0, 0, 0) = 15
            step(0, 1, 0, -1, 0) = 16
            step(0, 1, 5, 1, 0) = 17
            step(0, 0, 0, 0, 0) = 18
            run(0) = 0
            stock(4) = 1
            stock(5) = 1
            ran(1) = 10
            setStock(0, 0x7FFFFFFFFFFFFFFF) = 1
            drop(0) = 19
            step(0, 19, 0, 0, 0) = 0
            step(0, 1, 4, 1, 0) = 1
            step(0, 0, 0, 0, 0) = 2
            run(0) = 0
            stock(4) = 2
            """);
    }

    private static void spentAtTheLastStep() {
        Script.run("with the 301st (not counted) the RUN is SPENT", """
            setStock(0, 149) = 1
            step(0, 20, 0, 0, 0) = 0
            step(0, 1, 0, -1, 0) = 1
            step(0, 0, 0, 0, 0) = 2
            step(0, 1, 1, 1, 0) = 3
            # 149 times two, the last look, and ADD
            run(0) = 0
            ran(1) = 300
            stock(1) = 1
            setStock(0, 149) = 1
            step(0, 1, 2, 1, 0) = 4
            run(0) = -30
            ran(1) = 300
            stock(1) = 2
            stock(2) = 0
            # CELLS, CARDS, STOCK stay as they are
            stock(0) = 0
            """);
        Script.run("the 301st is a FAULT's STEP, or one with a BODY: it does not begin", """
            setStock(0, 149) = 1
            step(0, 20, 0, 0, 0) = 0
            step(0, 1, 0, -1, 0) = 1
            step(0, 0, 0, 0, 0) = 2
            step(0, 1, 1, 1, 0) = 3
            step(0, 7, 1, 0, 0) = 4
            run(0) = -30
            ran(8) = 0
            told(2) = 0
            ran(2) = NONE
            ran(7) = 0
            setStock(0, 149) = 1
            drop(0) = 5
            step(0, 20, 0, 0, 0) = 0
            step(0, 1, 0, -1, 0) = 1
            step(0, 0, 0, 0, 0) = 2
            step(0, 1, 1, 1, 0) = 3
            step(0, 11, 1, 0, 0) = 4
            step(0, 0, 0, 0, 0) = 5
            run(0) = -30
            ran(6) = 0
            # the 300th may be a FAULT
            setStock(0, 149) = 1
            drop(0) = 6
            step(0, 20, 0, 0, 0) = 0
            step(0, 1, 0, -1, 0) = 1
            step(0, 0, 0, 0, 0) = 2
            step(0, 7, 1, 0, 0) = 3
            run(0) = -18
            ran(1) = 300
            stock(0) = 149
            """);
        Script.run("0, 17, 18 do not count: a CATCH's and a LAST's BODY behind the 300th, empty", """
            setStock(0, 148) = 1
            step(0, 20, 0, 0, 0) = 0
            step(0, 1, 0, -1, 0) = 1
            step(0, 0, 0, 0, 0) = 2
            step(0, 1, 1, 1, 0) = 3
            step(0, 16, 0, 0, 0) = 4
            step(0, 7, 1, 0, 0) = 5
            step(0, 0, 0, 0, 0) = 6
            step(0, 17, 0, 0, 0) = 7
            step(0, 0, 0, 0, 0) = 8
            step(0, 18, 0, 0, 0) = 9
            step(0, 0, 0, 0, 0) = 10
            # 297, ADD, TRY, FAIL
            run(0) = 0
            ran(1) = 300
            ran(4) = 1
            ran(5) = 1
            """);
        Script.run("AGAIN counts each time: the next time would be the 301st", """
            setStock(0, 148) = 1
            step(0, 20, 0, 0, 0) = 0
            step(0, 1, 0, -1, 0) = 1
            step(0, 0, 0, 0, 0) = 2
            step(0, 15, 2, 0, 0) = 3
            step(0, 1, 1, 1, 0) = 4
            step(0, 7, 1, 0, 0) = 5
            step(0, 0, 0, 0, 0) = 6
            run(0) = -30
            ran(1) = 300
            ran(8) = 1
            # undone behind the FAULT, ahead of the next time
            stock(1) = 0
            stock(0) = 0
            # not the last time: the FAULT did not go out
            fault() = 0
            setStock(0, 148) = 1
            drop(0) = 7
            step(0, 20, 0, 0, 0) = 0
            step(0, 1, 0, -1, 0) = 1
            step(0, 0, 0, 0, 0) = 2
            step(0, 15, 1, 0, 0) = 3
            step(0, 1, 1, 1, 0) = 4
            step(0, 7, 1, 0, 0) = 5
            step(0, 0, 0, 0, 0) = 6
            run(0) = -18
            ran(1) = 300
            """);
    }

    private static void spentGivesBack() {
        Script.run("What is given back goes back on every way out: behind an ANSWER", """
            setStock(0, 10) = 1
            step(0, 12, 0, 4, 0) = 0
            step(0, 11, 1, 0, 0) = 1
            step(0, 11, 1, 0, 0) = 2
            step(0, 13, 2, 8, 9) = 3
            step(0, 1, 1, 1, 0) = 4
            step(0, 8, 6, 0, 0) = 5
            step(0, 1, 1, 1, 0) = 6
            step(0, 0, 0, 0, 0) = 7
            step(0, 0, 0, 0, 0) = 8
            step(0, 0, 0, 0, 0) = 9
            step(0, 0, 0, 0, 0) = 10
            step(0, 1, 1, 1, 0) = 11
            run(0) = 1
            ran(0) = 6
            ran(1) = 6
            ran(6) = 2
            stock(0) = 10
            stock(1) = 1
            valve(1, 1) = 0
            valve(2, 0) = 9
            # again: what was HELD is held no more
            step(1, 9, 1, 0, 0) = 0
            run(1) = -17
            run(0) = 1
            ran(6) = 2
            """);
        Script.run("What is given back goes back on every way out: behind its BODY, behind a FAULT, also one that is met", """
            setStock(0, 10) = 1
            step(0, 12, 0, 4, 0) = 0
            step(0, 11, 1, 0, 0) = 1
            step(0, 13, 2, 8, 9) = 2
            step(0, 1, 1, 1, 0) = 3
            step(0, 0, 0, 0, 0) = 4
            step(0, 0, 0, 0, 0) = 5
            step(0, 0, 0, 0, 0) = 6
            run(0) = 0
            stock(0) = 10
            stock(1) = 1
            valve(1, 1) = 0
            valve(2, 0) = 9
            step(1, 16, 0, 0, 0) = 0
            step(1, 12, 0, 4, 0) = 1
            step(1, 11, 1, 0, 0) = 2
            step(1, 13, 2, 5, 6) = 3
            step(1, 1, 1, 1, 0) = 4
            step(1, 7, 1, 0, 0) = 5
            step(1, 0, 0, 0, 0) = 6
            step(1, 0, 0, 0, 0) = 7
            step(1, 0, 0, 0, 0) = 8
            step(1, 0, 0, 0, 0) = 9
            step(1, 17, 8, 0, 0) = 10
            step(1, 16, 0, 0, 0) = 11
            step(1, 9, 1, 0, 0) = 12
            step(1, 0, 0, 0, 0) = 13
            step(1, 17, 7, 0, 0) = 14
            step(1, 1, 2, 1, 0) = 15
            step(1, 0, 0, 0, 0) = 16
            step(1, 0, 0, 0, 0) = 17
            run(1) = 0
            stock(0) = 10
            stock(1) = 2
            stock(2) = 1
            valve(1, 1) = 0
            valve(2, 0) = 6
            """);
        Script.run("nothing more is done but what is given back, and CELLS, CARDS, STOCK stay as they are", """
            row(0, 4, 1) = 1
            card(1) = 0
            setStock(0, 1) = 1
            setStock(1, 10) = 1
            step(0, 14, 0, 0, 0) = 0
            step(0, 15, 9, 0, 0) = 1
            step(0, 12, 1, 10, 0) = 2
            step(0, 13, 0, 4, 5) = 3
            step(0, 11, 2, 0, 0) = 4
            step(0, 3, 0, 0, 6) = 5
            step(0, 5, 1, 7, 0) = 6
            step(0, 16, 0, 0, 0) = 7
            step(0, 20, 0, 0, 0) = 8
            step(0, 0, 0, 0, 0) = 9
            step(0, 0, 0, 0, 0) = 10
            step(0, 17, 0, 0, 0) = 11
            step(0, 1, 2, 1, 0) = 12
            step(0, 0, 0, 0, 0) = 13
            step(0, 18, 0, 0, 0) = 14
            step(0, 1, 3, 1, 0) = 15
            step(0, 0, 0, 0, 0) = 16
            step(0, 0, 0, 0, 0) = 17
            step(0, 0, 0, 0, 0) = 18
            step(0, 0, 0, 0, 0) = 19
            step(0, 0, 0, 0, 0) = 20
            step(0, 0, 0, 0, 0) = 21
            run(0) = -30
            ran(0) = 0
            ran(1) = 300
            ran(2) = NONE
            ran(3) = 0
            ran(4) = 0
            ran(5) = 0
            ran(6) = 1
            ran(7) = 0
            ran(8) = 0
            stock(1) = 10
            valve(0, 0) = 5
            valve(2, 1) = 0
            get(0, 4, 0) = 6
            field(1, 4) = 7
            stock(2) = 0
            stock(3) = 0
            told(2) = 0
            """);
        Script.run("SPENT has no CAUSE, nor a number: a FAULT with both waits for a time of AGAIN that is the 301st", """
            setStock(0, 147) = 1
            step(0, 20, 0, 0, 0) = 0
            step(0, 1, 0, -1, 0) = 1
            step(0, 0, 0, 0, 0) = 2
            step(0, 15, 9, 0, 0) = 3
            step(0, 16, 0, 0, 0) = 4
            step(0, 9, 0, 0, 0) = 5
            step(0, 0, 0, 0, 0) = 6
            step(0, 17, 7, 0, 0) = 7
            step(0, 7, 44, 0, 0) = 8
            step(0, 0, 0, 0, 0) = 9
            step(0, 0, 0, 0, 0) = 10
            # DO, 295 for the LOOP, AGAIN, TRY, WAKE, FAIL
            step(1, 10, 0, 0, 0) = 0
            run(1) = -30
            ran(0) = 0
            ran(1) = 300
            ran(2) = NONE
            ran(3) = 0
            ran(4) = 1
            ran(7) = 0
            ran(8) = 2
            fault() = 0
            told(2) = 2
            """);
        Script.run("SPENT within a CATCH and within a LAST: the LAST is not done, what waited does not go on", """
            setStock(0, 1) = 1
            step(0, 16, 0, 0, 0) = 0
            step(0, 7, 1, 0, 0) = 1
            step(0, 0, 0, 0, 0) = 2
            step(0, 17, 0, 0, 0) = 3
            step(0, 20, 0, 0, 0) = 4
            step(0, 0, 0, 0, 0) = 5
            step(0, 0, 0, 0, 0) = 6
            step(0, 18, 0, 0, 0) = 7
            step(0, 1, 3, 1, 0) = 8
            step(0, 0, 0, 0, 0) = 9
            run(0) = -30
            ran(4) = 1
            ran(5) = 0
            stock(3) = 0
            fault() = 0
            drop(0) = 10
            step(0, 16, 0, 0, 0) = 0
            step(0, 8, 1, 0, 0) = 1
            step(0, 0, 0, 0, 0) = 2
            step(0, 18, 0, 0, 0) = 3
            step(0, 20, 0, 0, 0) = 4
            step(0, 0, 0, 0, 0) = 5
            step(0, 0, 0, 0, 0) = 6
            run(0) = -30
            ran(0) = 0
            ran(5) = 1
            """);
    }

    private static void whatIsTold() {
        Script.run("ran: 0 before, but NONE of 2; BAD", """
            ran(0) = 0
            ran(1) = 0
            ran(2) = NONE
            ran(3) = 0
            ran(4) = 0
            ran(5) = 0
            ran(6) = 0
            ran(7) = 0
            ran(8) = 0
            ran(-1) = BAD
            ran(9) = BAD
            ran(2147483647) = BAD
            """);
        Script.run("ran: of the latest RUN: nothing of one before is left", """
            setStock(0, 1) = 1
            step(0, 16, 0, 0, 0) = 0
            step(0, 7, 3, 0, 0) = 1
            step(0, 0, 0, 0, 0) = 2
            step(0, 17, 0, 0, 0) = 3
            step(0, 11, 0, 0, 0) = 4
            step(0, 2, 0, 0, 0) = 5
            step(0, 0, 0, 0, 0) = 6
            step(0, 0, 0, 0, 0) = 7
            step(0, 18, 0, 0, 0) = 8
            step(0, 7, 4, 0, 0) = 9
            step(0, 0, 0, 0, 0) = 10
            run(0) = -18
            ran(1) = 5
            ran(2) = 9
            ran(3) = 6
            ran(4) = 1
            ran(5) = 1
            ran(6) = 1
            ran(7) = 4
            ran(8) = 3
            run(1) = 0
            ran(0) = 0
            ran(1) = 0
            ran(2) = NONE
            ran(3) = 0
            ran(4) = 0
            ran(5) = 0
            ran(6) = 0
            ran(7) = 0
            ran(8) = 0
            step(1, 8, 5, 0, 0) = 0
            run(1) = 1
            ran(0) = 5
            drop(1) = 1
            run(1) = 0
            ran(0) = 0
            """);
        Script.run("how deep VALVES were HELD at most, all together", """
            step(0, 11, 0, 0, 0) = 0
            step(0, 11, 1, 0, 0) = 1
            step(0, 11, 0, 0, 0) = 2
            step(0, 0, 0, 0, 0) = 3
            step(0, 0, 0, 0, 0) = 4
            step(0, 11, 2, 0, 0) = 5
            step(0, 0, 0, 0, 0) = 6
            step(0, 0, 0, 0, 0) = 7
            step(0, 11, 2, 0, 0) = 8
            step(0, 0, 0, 0, 0) = 9
            run(0) = 0
            ran(6) = 3
            """);
        Script.run("the number of the OWN that went out (0), for each other FAULT", """
            row(0, 5, 1) = 1
            step(0, 7, 77, 0, 0) = 0
            run(0) = -18
            ran(7) = 77
            step(1, 3, 15, 0, 0) = 0
            run(1) = -11
            ran(7) = 0
            drop(1) = 1
            step(1, 4, 0, 0, 0) = 0
            run(1) = -14
            ran(7) = 0
            drop(1) = 1
            step(1, 5, 0, 0, 0) = 0
            run(1) = -14
            ran(7) = 0
            drop(1) = 1
            step(1, 3, 0, 0, 0) = 0
            run(1) = -14
            ran(7) = 0
            drop(1) = 1
            step(1, 6, 0, 0, 0) = 0
            run(1) = -14
            ran(7) = 0
            drop(1) = 1
            step(1, 6, 0, 9, 0) = 0
            run(1) = -12
            ran(7) = 0
            drop(1) = 1
            step(1, 9, 0, 0, 0) = 0
            run(1) = -17
            ran(7) = 0
            drop(1) = 1
            step(1, 2, 0, 0, 0) = 0
            run(1) = -16
            ran(7) = 0
            """);
        Script.run("the PLACE, in the PLAN of its FRAME, at which the FAULT that went out arose", """
            step(0, 1, 0, 1, 0) = 0
            step(0, 1, 0, 1, 0) = 1
            step(0, 10, 1, 0, 0) = 2
            step(1, 11, 0, 0, 0) = 0
            step(1, 1, 0, 1, 0) = 1
            step(1, 10, 2, 0, 0) = 2
            step(1, 0, 0, 0, 0) = 3
            step(2, 7, 1, 0, 0) = 0
            run(0) = -18
            ran(2) = 0
            # behind a DO that is done, and behind STEPS given back
            drop(2) = 1
            step(1, 9, 0, 0, 0) = 4
            run(0) = -17
            ran(2) = 4
            drop(1) = 5
            step(0, 9, 0, 0, 0) = 3
            run(0) = -17
            ran(2) = 3
            """);
    }

    private static void refusedRuns() {
        Script.run("NO: not WELL FORMED; what was told of the latest RUN stays", """
            step(0, 1, 0, 1, 0) = 0
            step(0, 7, 7, 0, 0) = 1
            run(0) = -18
            step(1, 1, 0, 1, 0) = 0
            step(1, 0, 0, 0, 0) = 1
            run(1) = NO
            run(4) = BAD
            run(-1) = BAD
            ran(1) = 2
            ran(2) = 1
            ran(7) = 7
            ran(8) = 1
            stock(0) = 0
            told(2) = 1
            fault() = 8
            """);
        Script.run("FAULTS ever (also those that arose in a RUN); fault: of a RUN, that went out", """
            step(0, 16, 0, 0, 0) = 0
            step(0, 9, 0, 0, 0) = 1
            step(0, 0, 0, 0, 0) = 2
            step(0, 17, 0, 0, 0) = 3
            step(0, 0, 0, 0, 0) = 4
            run(0) = 0
            told(2) = 1
            fault() = 0
            get(0, 0, 0) = 0
            run(0) = 0
            told(2) = 3
            fault() = 1
            step(0, 2, 0, 0, 0) = 5
            run(0) = -16
            told(2) = 5
            fault() = 6
            """);
    }
}

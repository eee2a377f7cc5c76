/** Promises 32 to 39: plans, runs, stock, valves. */
public final class ActsTest {
    public static void main(String[] args) {
        plans();
        forms();
        plainSteps();
        plainFaults();
        givingBack();
        keeping();
        again();
        trying();
        lasts();
        catchAndLast();
        spent();
        deep();
        Script.end();
    }

    private static void plans() {
        Script.run("promises 32 and 33, step and drop", """
            step(0, 1, 0, 1, 0) = 0
            step(0, 1, 0, 1, 0) = 1
            step(3, 0, 0, 0, 0) = 0
            told(9) = 3
            step(4, 1, 0, 1, 0) = BAD
            step(-1, 1, 0, 1, 0) = BAD
            step(0, 21, 0, 1, 0) = BAD
            step(0, -1, 0, 1, 0) = BAD
            drop(0) = 2
            drop(0) = 0
            drop(4) = BAD
            drop(-1) = BAD
            told(9) = 1
            40 * step(1, 1, 0, 1, 0)
            step(1, 1, 0, 1, 0) = FULL
            step(1, 21, 0, 1, 0) = BAD
            told(9) = 41
            run(1) = 0
            stock(0) = 40
            drop(1) = 40
            step(1, 1, 0, 1, 0) = 0
            """);
        Script.run("promises 37 to 39, stock and valves", """
            setStock(0, -5) = 1
            setStock(5, 0x7FFFFFFFFFFFFFFF) = 1
            stock(0) = -5
            stock(5) = 0x7FFFFFFFFFFFFFFF
            stock(1) = 0
            stock(6) = 0
            stock(-1) = 0
            setStock(6, 1) = BAD
            setStock(-1, 1) = BAD
            valve(3, 0) = 0
            valve(-1, 0) = 0
            valve(0, 2) = 0
            step(0, 13, 1, 4, 9) = 0
            step(0, 0, 0, 0, 0) = 1
            run(0) = 0
            valve(1, 0) = 9
            valve(1, 1) = 0
            valve(0, 0) = 0
            valve(1, 2) = 0
            """);
    }

    private static void forms() {
        Script.run("promise 34, formed", """
            formed(0) = NONE
            formed(4) = 0
            formed(-1) = 0
            step(0, 0, 0, 0, 0) = 0
            formed(0) = 0
            run(0) = NO
            step(1, 16, 0, 0, 0) = 0
            formed(1) = 1
            step(1, 0, 0, 0, 0) = 1
            formed(1) = NONE
            step(1, 17, 1, 0, 0) = 2
            formed(1) = 3
            step(1, 0, 0, 0, 0) = 3
            step(1, 17, 0, 0, 0) = 4
            step(1, 0, 0, 0, 0) = 5
            formed(1) = NONE
            step(1, 18, 0, 0, 0) = 6
            step(1, 0, 0, 0, 0) = 7
            formed(1) = NONE
            step(1, 17, 0, 0, 0) = 8
            formed(1) = 8
            step(1, 0, 0, 0, 0) = 9
            formed(1) = 8
            # a second LAST, a CATCH behind a step, a LAST behind a HOLD
            step(2, 16, 0, 0, 0) = 0
            step(2, 0, 0, 0, 0) = 1
            step(2, 18, 0, 0, 0) = 2
            step(2, 0, 0, 0, 0) = 3
            step(2, 18, 0, 0, 0) = 4
            formed(2) = 4
            drop(2) = 5
            step(2, 16, 0, 0, 0) = 0
            step(2, 0, 0, 0, 0) = 1
            step(2, 1, 0, 0, 0) = 2
            step(2, 17, 0, 0, 0) = 3
            formed(2) = 3
            drop(2) = 4
            step(2, 11, 0, 0, 0) = 0
            step(2, 0, 0, 0, 0) = 1
            step(2, 18, 0, 0, 0) = 2
            formed(2) = 2
            drop(2) = 3
            # each of these has a body; within a TRY's body a CATCH may not begin
            step(2, 11, 0, 0, 0) = 0
            step(2, 12, 0, 0, 0) = 1
            step(2, 13, 0, 0, 0) = 2
            step(2, 14, 0, 0, 0) = 3
            step(2, 15, 0, 0, 0) = 4
            step(2, 19, 0, 0, 0) = 5
            step(2, 20, 0, 0, 0) = 6
            6 * step(2, 0, 0, 0, 0)
            formed(2) = 13
            step(2, 0, 0, 0, 0) = 13
            formed(2) = NONE
            drop(2) = 14
            step(2, 16, 0, 0, 0) = 0
            step(2, 17, 0, 0, 0) = 1
            formed(2) = 1
            run(2) = NO
            # the end lacks, but something before it is wrong
            drop(2) = 2
            step(2, 19, 0, 0, 0) = 0
            step(2, 18, 0, 0, 0) = 1
            formed(2) = 1
            """);
    }

    private static void plainSteps() {
        Script.run("promise 35, plain steps", """
            run(0) = 0
            run(4) = BAD
            run(-1) = BAD
            row(0, 4, 3) = 1
            card(1) = 0
            plant(2, 1, 4, 3, 0, 0) = 0
            setStock(0, 0x7FFFFFFFFFFFFFFF) = 1
            setStock(1, -7) = 1
            setStock(2, 0x8000000000000000) = 1
            step(0, 1, 0, 1, 0) = 0
            step(0, 2, 1, 2, 0) = 1
            step(0, 2, 2, -1, 0) = 2
            step(0, 3, 0, 2, -9) = 3
            step(0, 4, 0, 2, 3) = 4
            step(0, 5, 1, 77, 0) = 5
            step(0, 6, 2, 1, 4) = 6
            step(0, 8, -4, 0, 0) = 7
            step(0, 1, 5, 1, 0) = 8
            run(0) = 1
            ran(0) = -4
            ran(1) = 8
            ran(2) = NONE
            ran(8) = 0
            stock(0) = 0x8000000000000000
            stock(1) = -3
            stock(2) = 0x8000000000000000
            stock(3) = -9
            stock(4) = 28
            stock(5) = 0
            get(0, 4, 2) = -9
            field(1, 4) = 77
            trace(0) = 11
            trace(1) = 10
            answer() = 0
            """);
        Script.run("promise 35, IF, LOOP and DO", """
            setStock(0, 3) = 1
            step(0, 20, 0, 0, 0) = 0
            step(0, 1, 0, -1, 0) = 1
            step(0, 1, 1, 10, 0) = 2
            step(0, 0, 0, 0, 0) = 3
            step(0, 19, 0, 0, 0) = 4
            step(0, 1, 2, 1, 0) = 5
            step(0, 0, 0, 0, 0) = 6
            step(0, 19, 1, 0, 0) = 7
            step(0, 10, 1, 0, 0) = 8
            step(0, 0, 0, 0, 0) = 9
            step(1, 1, 3, 5, 0) = 0
            run(0) = 0
            stock(0) = 0
            stock(1) = 30
            stock(2) = 0
            stock(3) = 5
            # LOOP looks four times
            ran(1) = 14
            # an ANSWER out of a plan that is done ends the whole run
            step(1, 8, 6, 0, 0) = 1
            step(0, 1, 4, 1, 0) = 10
            run(0) = 1
            ran(0) = 6
            stock(4) = 0
            stock(3) = 10
            """);
    }

    private static void plainFaults() {
        Script.run("promises 35, 36 and 75, faults of plain steps", """
            row(0, 4, 2) = 1
            row(1, 5, 2) = 1
            card(2) = 0
            plant(3, 0, 0, 0, 0, 0) = 0
            plant(4, 2, 0, 0, 15, 15) = 1
            step(0, 1, 6, 0, 0) = 0
            run(0) = -12
            ran(2) = 0
            ran(1) = 1
            ran(8) = 1
            fault() = 2
            drop(0) = 1
            step(0, 2, 0, 0, 0) = 0
            run(0) = -16
            drop(0) = 1
            step(0, 2, -1, 0, 0) = 0
            run(0) = -12
            drop(0) = 1
            step(0, 3, 1, 0, 0) = 0
            run(0) = -14
            drop(0) = 1
            step(0, 3, 15, 9, 0) = 0
            run(0) = -11
            drop(0) = 1
            step(0, 3, 0, 2, 0) = 0
            run(0) = -12
            drop(0) = 1
            step(0, 3, 16, 0, 0) = 0
            run(0) = -12
            drop(0) = 1
            step(0, 4, 1, 0, 0) = 0
            run(0) = -14
            drop(0) = 1
            # numbers ahead of what the bin holds
            step(0, 4, 1, 0, 6) = 0
            run(0) = -12
            drop(0) = 1
            step(0, 4, 15, 0, 0) = 0
            run(0) = -11
            drop(0) = 1
            step(0, 4, 0, -1, 0) = 0
            run(0) = -12
            drop(0) = 1
            step(0, 5, 0, 1, 0) = 0
            run(0) = -14
            drop(0) = 1
            step(0, 5, 15, 1, 0) = 0
            run(0) = -11
            drop(0) = 1
            step(0, 5, -1, 1, 0) = 0
            run(0) = -12
            drop(0) = 1
            step(0, 6, 0, 0, 0) = 0
            run(0) = -14
            drop(0) = 1
            step(0, 6, 0, 4, 0) = 0
            run(0) = -12
            ran(7) = 0
            drop(0) = 1
            step(0, 6, 0, 0, 6) = 0
            run(0) = -12
            drop(0) = 1
            step(0, 6, 15, 1, 0) = 0
            run(0) = -11
            drop(0) = 1
            step(0, 6, 3, 1, 0) = 0
            run(0) = -14
            drop(0) = 1
            step(0, 6, 3, 2, 0) = 0
            run(0) = -16
            ran(7) = 0
            trace(0) = 20
            drop(0) = 1
            step(0, 6, 4, 0, 0) = 0
            run(0) = -11
            trace(0) = 3
            drop(0) = 1
            step(0, 7, -12, 0, 0) = 0
            run(0) = -18
            ran(7) = -12
            fault() = 8
            drop(0) = 1
            step(0, 9, 3, 0, 0) = 0
            run(0) = -12
            ran(7) = 0
            drop(0) = 1
            step(0, 9, 2, 0, 0) = 0
            run(0) = -17
            fault() = 7
            drop(0) = 1
            step(0, 10, 4, 0, 0) = 0
            run(0) = -12
            drop(0) = 1
            step(0, 10, 1, 0, 0) = 0
            step(1, 0, 0, 0, 0) = 0
            run(0) = -18
            ran(7) = 98
            told(2) = 26
            ran(9) = BAD
            ran(-1) = BAD
            # a run that is refused leaves what was told of the latest
            run(1) = NO
            ran(7) = 98
            """);
        Script.run("promise 35, faults of steps with bodies", """
            step(0, 11, 3, 0, 0) = 0
            step(0, 0, 0, 0, 0) = 1
            run(0) = -12
            drop(0) = 2
            step(0, 12, 6, 0, 0) = 0
            step(0, 0, 0, 0, 0) = 1
            run(0) = -12
            drop(0) = 2
            step(0, 12, 0, 1, 0) = 0
            step(0, 0, 0, 0, 0) = 1
            run(0) = -18
            ran(7) = 97
            setStock(0, 1) = 1
            run(0) = 0
            drop(0) = 2
            step(0, 12, 0, -1, 0) = 0
            step(0, 0, 0, 0, 0) = 1
            run(0) = -18
            ran(7) = 97
            drop(0) = 2
            step(0, 13, -1, 0, 0) = 0
            step(0, 0, 0, 0, 0) = 1
            run(0) = -12
            drop(0) = 2
            step(0, 15, 0, 0, 0) = 0
            step(0, 0, 0, 0, 0) = 1
            run(0) = -18
            ran(7) = 96
            drop(0) = 2
            step(0, 15, 10, 0, 0) = 0
            step(0, 0, 0, 0, 0) = 1
            run(0) = -18
            ran(7) = 96
            drop(0) = 2
            step(0, 19, 6, 0, 0) = 0
            step(0, 0, 0, 0, 0) = 1
            run(0) = -12
            drop(0) = 2
            step(0, 20, -1, 0, 0) = 0
            step(0, 0, 0, 0, 0) = 1
            run(0) = -12
            ran(1) = 1
            """);
    }

    private static void givingBack() {
        Script.run("promise 35, what is given back", """
            setStock(0, 10) = 1
            step(0, 11, 0, 0, 0) = 0
            step(0, 11, 0, 0, 0) = 1
            step(0, 11, 2, 0, 0) = 2
            step(0, 12, 0, 4, 0) = 3
            step(0, 13, 1, 5, 6) = 4
            step(0, 9, 0, 0, 0) = 5
            step(0, 4, 0, 0, 0) = 6
            step(0, 0, 0, 0, 0) = 7
            step(0, 0, 0, 0, 0) = 8
            step(0, 0, 0, 0, 0) = 9
            step(0, 0, 0, 0, 0) = 10
            step(0, 0, 0, 0, 0) = 11
            row(0, 4, 1) = 1
            put(0, 4, 0, 50) = 1
            run(0) = 0
            # READ made it 50, then came 4
            stock(0) = 54
            valve(1, 0) = 6
            valve(0, 1) = 0
            valve(2, 1) = 0
            ran(6) = 3
            # on the way of a fault the place of a valve stays as it was given back
            put(0, 4, 0, 1) = 1
            share(0, NONE) = 1
            setStock(0, 10) = 1
            valve(1, 0) = 6
            run(0) = -11
            ran(2) = 6
            stock(0) = 10
            valve(0, 1) = 0
            valve(1, 0) = 6
            """);
        Script.run("promise 35, the newest goes back first", """
            step(0, 13, 0, 1, 2) = 0
            step(0, 13, 0, 3, 4) = 1
            step(0, 8, 1, 0, 0) = 2
            step(0, 0, 0, 0, 0) = 3
            step(0, 0, 0, 0, 0) = 4
            run(0) = 1
            valve(0, 0) = 2
            drop(0) = 5
            step(0, 13, 0, 1, 7) = 0
            step(0, 7, 1, 0, 0) = 1
            step(0, 0, 0, 0, 0) = 2
            run(0) = -18
            # a run undoes cells, cards and stock, but not the valves' places
            valve(0, 0) = 7
            # a valve is held within its body alone
            drop(0) = 3
            step(0, 11, 1, 0, 0) = 0
            step(0, 0, 0, 0, 0) = 1
            step(0, 9, 1, 0, 0) = 2
            run(0) = -17
            ran(6) = 1
            """);
    }

    private static void keeping() {
        Script.run("promise 35, KEEP", """
            row(0, 4, 1) = 1
            card(1) = 0
            setStock(0, 5) = 1
            step(0, 16, 0, 0, 0) = 0
            step(0, 1, 1, 3, 0) = 1
            step(0, 14, 0, 0, 0) = 2
            step(0, 12, 0, 2, 0) = 3
            step(0, 3, 0, 0, 9) = 4
            step(0, 5, 1, 8, 0) = 5
            step(0, 1, 1, 4, 0) = 6
            step(0, 13, 0, 1, 2) = 7
            step(0, 7, 1, 0, 0) = 8
            step(0, 0, 0, 0, 0) = 9
            step(0, 0, 0, 0, 0) = 10
            step(0, 0, 0, 0, 0) = 11
            step(0, 0, 0, 0, 0) = 12
            step(0, 17, 8, 0, 0) = 13
            step(0, 0, 0, 0, 0) = 14
            run(0) = 0
            ran(4) = 1
            ran(8) = 1
            stock(0) = 5
            stock(1) = 3
            get(0, 4, 0) = 0
            field(1, 4) = 0
            valve(0, 0) = 2
            told(2) = 1
            # a fault that was met is none of the call
            fault() = 0
            """);
        Script.run("promise 35, KEEP without a fault, and with an answer", """
            step(0, 14, 0, 0, 0) = 0
            step(0, 1, 0, 1, 0) = 1
            step(0, 0, 0, 0, 0) = 2
            step(0, 14, 0, 0, 0) = 3
            step(0, 1, 1, 1, 0) = 4
            step(0, 8, 3, 0, 0) = 5
            step(0, 0, 0, 0, 0) = 6
            run(0) = 1
            stock(0) = 1
            stock(1) = 1
            # a TAKE round a KEEP
            drop(0) = 7
            setStock(0, 9) = 1
            step(0, 16, 0, 0, 0) = 0
            step(0, 12, 0, 4, 0) = 1
            step(0, 14, 0, 0, 0) = 2
            step(0, 1, 0, 100, 0) = 3
            step(0, 7, 0, 0, 0) = 4
            step(0, 0, 0, 0, 0) = 5
            step(0, 0, 0, 0, 0) = 6
            step(0, 0, 0, 0, 0) = 7
            step(0, 17, 0, 0, 0) = 8
            step(0, 0, 0, 0, 0) = 9
            run(0) = 0
            stock(0) = 9
            # without the KEEP what was added stays
            drop(0) = 10
            step(0, 16, 0, 0, 0) = 0
            step(0, 1, 0, 100, 0) = 1
            step(0, 7, 0, 0, 0) = 2
            step(0, 0, 0, 0, 0) = 3
            step(0, 17, 0, 0, 0) = 4
            step(0, 0, 0, 0, 0) = 5
            run(0) = 0
            stock(0) = 109
            """);
    }

    private static void again() {
        Script.run("promise 35, AGAIN", """
            step(0, 15, 3, 0, 0) = 0
            step(0, 1, 0, 1, 0) = 1
            step(0, 13, 0, 1, 5) = 2
            step(0, 7, 4, 0, 0) = 3
            step(0, 0, 0, 0, 0) = 4
            step(0, 0, 0, 0, 0) = 5
            run(0) = -18
            ran(1) = 12
            ran(8) = 3
            ran(2) = 3
            # the faults before are no cause
            ran(3) = 0
            ran(7) = 4
            stock(0) = 0
            told(2) = 3
            drop(0) = 6
            # the second time goes well: a valve's place is not undone
            step(0, 15, 9, 0, 0) = 0
            step(0, 1, 0, 1, 0) = 1
            step(0, 10, 1, 0, 0) = 2
            step(0, 0, 0, 0, 0) = 3
            run(0) = 0
            ran(1) = 3
            stock(0) = 1
            """);
        Script.run("promise 35, AGAIN once, and with an answer", """
            step(0, 15, 1, 0, 0) = 0
            step(0, 7, 4, 0, 0) = 1
            step(0, 0, 0, 0, 0) = 2
            run(0) = -18
            ran(1) = 2
            drop(0) = 3
            step(0, 15, 9, 0, 0) = 0
            step(0, 1, 0, 1, 0) = 1
            step(0, 8, 4, 0, 0) = 2
            step(0, 0, 0, 0, 0) = 3
            run(0) = 1
            ran(1) = 3
            stock(0) = 1
            """);
    }

    private static void trying() {
        Script.run("promise 35, the first CATCH that is for it", """
            step(0, 16, 0, 0, 0) = 0
            step(0, 9, 0, 0, 0) = 1
            step(0, 0, 0, 0, 0) = 2
            step(0, 17, 6, 0, 0) = 3
            step(0, 1, 0, 1, 0) = 4
            step(0, 0, 0, 0, 0) = 5
            step(0, 17, 7, 0, 0) = 6
            step(0, 1, 1, 1, 0) = 7
            step(0, 0, 0, 0, 0) = 8
            step(0, 17, 0, 0, 0) = 9
            step(0, 1, 2, 1, 0) = 10
            step(0, 0, 0, 0, 0) = 11
            step(0, 1, 3, 1, 0) = 12
            run(0) = 0
            stock(0) = 0
            stock(1) = 1
            stock(2) = 0
            stock(3) = 1
            ran(1) = 4
            ran(4) = 1
            ran(5) = 0
            # numbers that are no fault's meet none
            drop(0) = 13
            step(0, 16, 0, 0, 0) = 0
            step(0, 7, 5, 0, 0) = 1
            step(0, 0, 0, 0, 0) = 2
            step(0, 17, 9, 0, 0) = 3
            step(0, 0, 0, 0, 0) = 4
            step(0, 17, -1, 0, 0) = 5
            step(0, 0, 0, 0, 0) = 6
            run(0) = -18
            ran(4) = 0
            ran(2) = 1
            ran(3) = 0
            """);
        Script.run("promise 36, causes", """
            # out of a CATCH: the one that it met; it is not met by the next CATCH
            step(0, 16, 0, 0, 0) = 0
            step(0, 9, 0, 0, 0) = 1
            step(0, 0, 0, 0, 0) = 2
            step(0, 17, 0, 0, 0) = 3
            step(0, 2, 0, 0, 0) = 4
            step(0, 0, 0, 0, 0) = 5
            step(0, 17, 6, 0, 0) = 6
            step(0, 0, 0, 0, 0) = 7
            run(0) = -16
            ran(2) = 4
            ran(3) = 7
            ran(4) = 1
            ran(8) = 2
            # met further out, what comes then has none
            drop(0) = 8
            step(0, 16, 0, 0, 0) = 0
            step(0, 10, 1, 0, 0) = 1
            step(0, 0, 0, 0, 0) = 2
            step(0, 17, 0, 0, 0) = 3
            step(0, 0, 0, 0, 0) = 4
            step(0, 7, 9, 0, 0) = 5
            step(1, 16, 0, 0, 0) = 0
            step(1, 9, 0, 0, 0) = 1
            step(1, 0, 0, 0, 0) = 2
            step(1, 17, 0, 0, 0) = 3
            step(1, 2, 0, 0, 0) = 4
            step(1, 0, 0, 0, 0) = 5
            run(0) = -18
            ran(3) = 0
            ran(4) = 2
            ran(8) = 3
            ran(7) = 9
            run(1) = -16
            ran(3) = 7
            # the place is one of the plan in which it arose
            drop(0) = 6
            step(0, 1, 0, 1, 0) = 0
            step(0, 1, 0, 1, 0) = 1
            step(0, 10, 1, 0, 0) = 2
            run(0) = -16
            ran(2) = 4
            """);
    }

    private static void lasts() {
        Script.run("promise 35, LAST on every way", """
            # without a fault
            step(0, 16, 0, 0, 0) = 0
            step(0, 19, 1, 0, 0) = 1
            step(0, 7, 3, 0, 0) = 2
            step(0, 0, 0, 0, 0) = 3
            step(0, 19, 2, 0, 0) = 4
            step(0, 8, 9, 0, 0) = 5
            step(0, 0, 0, 0, 0) = 6
            step(0, 0, 0, 0, 0) = 7
            step(0, 18, 0, 0, 0) = 8
            step(0, 1, 0, 1, 0) = 9
            step(0, 19, 3, 0, 0) = 10
            step(0, 8, 5, 0, 0) = 11
            step(0, 0, 0, 0, 0) = 12
            step(0, 19, 4, 0, 0) = 13
            step(0, 2, 0, 0, 0) = 14
            step(0, 0, 0, 0, 0) = 15
            step(0, 0, 0, 0, 0) = 16
            step(0, 1, 5, 1, 0) = 17
            run(0) = 0
            stock(0) = 1
            stock(5) = 1
            ran(5) = 1
            # with an answer
            setStock(2, 1) = 1
            run(0) = 1
            ran(0) = 9
            stock(0) = 2
            stock(5) = 1
            # an answer in place of it
            setStock(3, 1) = 1
            run(0) = 1
            ran(0) = 5
            stock(0) = 3
            # an answer in place of a fault: nothing is undone
            setStock(2, 0) = 1
            setStock(1, 1) = 1
            run(0) = 1
            ran(0) = 5
            ran(8) = 1
            ran(7) = 0
            ran(2) = NONE
            stock(0) = 4
            # a fault goes on behind LAST
            setStock(3, 0) = 1
            run(0) = -18
            ran(7) = 3
            ran(3) = 0
            ran(5) = 1
            stock(0) = 4
            # a fault in place of a fault has that as its cause
            setStock(4, 1) = 1
            run(0) = -16
            ran(2) = 14
            ran(3) = 8
            ran(7) = 0
            # a fault in place of an answer, or of nothing, has none
            setStock(1, 0) = 1
            setStock(2, 1) = 1
            run(0) = -16
            ran(3) = 0
            ran(0) = 0
            setStock(2, 0) = 1
            run(0) = -16
            ran(3) = 0
            stock(5) = 1
            """);
    }

    private static void catchAndLast() {
        Script.run("promise 35, LAST behind CATCHES", """
            step(0, 16, 0, 0, 0) = 0
            step(0, 19, 0, 0, 0) = 1
            step(0, 9, 0, 0, 0) = 2
            step(0, 0, 0, 0, 0) = 3
            step(0, 0, 0, 0, 0) = 4
            step(0, 17, 6, 0, 0) = 5
            step(0, 0, 0, 0, 0) = 6
            step(0, 17, 7, 0, 0) = 7
            step(0, 1, 1, 1, 0) = 8
            step(0, 19, 2, 0, 0) = 9
            step(0, 8, 4, 0, 0) = 10
            step(0, 0, 0, 0, 0) = 11
            step(0, 0, 0, 0, 0) = 12
            step(0, 18, 0, 0, 0) = 13
            step(0, 1, 3, 1, 0) = 14
            step(0, 0, 0, 0, 0) = 15
            step(0, 1, 4, 1, 0) = 16
            run(0) = 0
            ran(4) = 0
            ran(5) = 1
            stock(1) = 0
            stock(3) = 1
            stock(4) = 1
            setStock(0, 1) = 1
            run(0) = 0
            ran(4) = 1
            ran(5) = 1
            stock(1) = 1
            stock(3) = 2
            stock(4) = 2
            # an ANSWER out of the CATCH's body
            setStock(2, 1) = 1
            run(0) = 1
            ran(0) = 4
            stock(3) = 3
            stock(4) = 2
            """);
        Script.run("promise 36, what went out of a LAST in a LAST", """
            # the FAULT of the inner CATCH has a cause of its own, till it goes in place of another
            step(0, 16, 0, 0, 0) = 0
            step(0, 19, 0, 0, 0) = 1
            step(0, 7, 1, 0, 0) = 2
            step(0, 0, 0, 0, 0) = 3
            step(0, 0, 0, 0, 0) = 4
            step(0, 18, 0, 0, 0) = 5
            step(0, 16, 0, 0, 0) = 6
            step(0, 9, 0, 0, 0) = 7
            step(0, 0, 0, 0, 0) = 8
            step(0, 17, 7, 0, 0) = 9
            step(0, 2, 0, 0, 0) = 10
            step(0, 0, 0, 0, 0) = 11
            step(0, 0, 0, 0, 0) = 12
            run(0) = -16
            ran(3) = 7
            ran(2) = 10
            setStock(0, 1) = 1
            run(0) = -16
            ran(3) = 8
            ran(8) = 3
            """);
    }

    private static void spent() {
        Script.run("promise 35, SPENT gives back, and does no more", """
            setStock(0, 1) = 1
            setStock(1, 10) = 1
            step(0, 14, 0, 0, 0) = 0
            step(0, 12, 1, 4, 0) = 1
            step(0, 13, 2, 1, 3) = 2
            step(0, 11, 0, 0, 0) = 3
            step(0, 16, 0, 0, 0) = 4
            step(0, 20, 0, 0, 0) = 5
            step(0, 1, 2, 1, 0) = 6
            step(0, 0, 0, 0, 0) = 7
            step(0, 0, 0, 0, 0) = 8
            step(0, 17, 0, 0, 0) = 9
            step(0, 0, 0, 0, 0) = 10
            step(0, 18, 0, 0, 0) = 11
            step(0, 1, 3, 1, 0) = 12
            step(0, 0, 0, 0, 0) = 13
            step(0, 0, 0, 0, 0) = 14
            step(0, 0, 0, 0, 0) = 15
            step(0, 0, 0, 0, 0) = 16
            step(0, 0, 0, 0, 0) = 17
            formed(0) = NONE
            run(0) = -30
            ran(1) = 300
            ran(2) = NONE
            ran(8) = 0
            fault() = 0
            # five steps, then LOOP and ADD by turns in the 295 that are left
            stock(2) = 147
            stock(1) = 10
            stock(3) = 0
            ran(5) = 0
            valve(2, 0) = 3
            valve(0, 1) = 0
            """);
        Script.run("promise 35, three hundred steps are not too many", """
            setStock(0, 1) = 1
            setStock(1, 99) = 1
            step(0, 20, 1, 0, 0) = 0
            step(0, 1, 1, -1, 0) = 1
            step(0, 1, 2, 1, 0) = 2
            step(0, 0, 0, 0, 0) = 3
            step(0, 1, 2, 1, 0) = 4
            step(0, 1, 2, 1, 0) = 5
            run(0) = 0
            ran(1) = 300
            stock(2) = 101
            setStock(1, 99) = 1
            step(0, 1, 2, 1, 0) = 6
            run(0) = -30
            ran(1) = 300
            stock(2) = 202
            """);
        Script.run("promise 35, AGAIN counts each time", """
            setStock(1, 98) = 1
            step(0, 20, 1, 0, 0) = 0
            step(0, 1, 1, -1, 0) = 1
            step(0, 1, 2, 1, 0) = 2
            step(0, 0, 0, 0, 0) = 3
            step(0, 15, 9, 0, 0) = 4
            step(0, 1, 3, 1, 0) = 5
            step(0, 7, 1, 0, 0) = 6
            step(0, 0, 0, 0, 0) = 7
            # 295 and AGAIN, ADD, FAIL, AGAIN, ADD
            run(0) = -30
            ran(1) = 300
            ran(8) = 1
            stock(3) = 1
            setStock(1, 98) = 1
            setStock(3, 0) = 1
            step(0, 1, 4, 1, 0) = 8
            drop(0) = 9
            step(0, 1, 4, 1, 0) = 0
            step(0, 1, 4, 1, 0) = 1
            step(0, 20, 1, 0, 0) = 2
            step(0, 1, 1, -1, 0) = 3
            step(0, 1, 2, 1, 0) = 4
            step(0, 0, 0, 0, 0) = 5
            step(0, 15, 9, 0, 0) = 6
            step(0, 1, 3, 1, 0) = 7
            step(0, 7, 1, 0, 0) = 8
            step(0, 0, 0, 0, 0) = 9
            # 297 and AGAIN, ADD, FAIL: undone, and the next time is the 301st
            run(0) = -30
            ran(1) = 300
            ran(8) = 1
            stock(3) = 0
            stock(4) = 2
            """);
    }

    private static void deep() {
        Script.run("promise 35, as deep as plans go", """
            19 * step(0, 14, 0, 0, 0)
            step(0, 10, 0, 0, 0) = 19
            19 * step(0, 0, 0, 0, 0)
            formed(0) = NONE
            run(0) = -18
            ran(1) = 140
            ran(2) = 19
            ran(7) = 99
            ran(8) = 1
            # six DOs stand open, the seventh is a fault that the innermost plan meets
            drop(0) = 39
            18 * step(0, 11, 1, 0, 0)
            step(0, 16, 0, 0, 0) = 18
            step(0, 10, 0, 0, 0) = 19
            step(0, 0, 0, 0, 0) = 20
            step(0, 17, 8, 0, 0) = 21
            step(0, 0, 0, 0, 0) = 22
            17 * step(0, 0, 0, 0, 0)
            step(0, 0, 0, 0, 0) = FULL
            drop(0) = 40
            17 * step(0, 11, 1, 0, 0)
            step(0, 16, 0, 0, 0) = 17
            step(0, 10, 0, 0, 0) = 18
            step(0, 0, 0, 0, 0) = 19
            step(0, 17, 8, 0, 0) = 20
            step(0, 0, 0, 0, 0) = 21
            17 * step(0, 0, 0, 0, 0)
            run(0) = 0
            ran(1) = 133
            ran(4) = 1
            ran(6) = 119
            valve(1, 1) = 0
            """);
    }
}

/** The edges of the document's parts 8 and 9, pests and pages: each run bears the sentence that names the edge. */
public final class BookEdgesTest {
    public static void main(String[] args) {
        numbersAndParts();
        days();
        manyDays();
        sprays();
        whatIsWritten();
        cellsWritten();
        powerGoes();
        powerAtEachByte();
        dark();
        notWritten();
        octets();
        wholePages();
        longestPages();
        opened();
        read();
        clashes();
        greatestNumber();
        told();
        Script.end();
    }

    private static void numbersAndParts() {
        Script.run("PESTS 0, 1 have STAGES 0 .. 3 (0 .. 1000000000 each; 0 at first)", """
            pest(0, 0) = 0
            pest(1, 3) = 0
            pest(-1, 0) = BAD
            pest(2, 0) = BAD
            pest(0, -1) = BAD
            pest(0, 4) = BAD
            count(-1, 0, 1) = BAD
            count(2, 0, 1) = BAD
            count(0, -1, 1) = BAD
            count(0, 4, 1) = BAD
            count(0, 0, -1) = BAD
            count(0, 0, 1000000001) = BAD
            count(0, 0, 2147483647) = BAD
            count(0, 0, -2147483648) = BAD
            pest(0, 0) = 0
            count(0, 0, 1000000000) = 1
            count(1, 3, 1) = 1
            pest(0, 0) = 1000000000
            pest(1, 3) = 1
            count(0, 0, 0) = 1
            pest(0, 0) = 0
            """);
        Script.run("for each STAGE three PARTS (0 .. 1000)", """
            parts(-1, 0, 0, 0, 0) = BAD
            parts(2, 0, 0, 0, 0) = BAD
            parts(0, -1, 0, 0, 0) = BAD
            parts(0, 4, 0, 0, 0) = BAD
            parts(0, 0, -1, 0, 0) = BAD
            parts(0, 0, 1001, 0, 0) = BAD
            parts(0, 0, 0, -1, 0) = BAD
            parts(0, 0, 0, 1001, 0) = BAD
            parts(0, 0, 0, 0, -1) = BAD
            parts(0, 0, 0, 0, 1001) = BAD
            parts(0, 0, 0, 0, 0) = 1
            parts(1, 3, 1000, 1000, 1000) = 1
            # what was BAD left the PARTS as they were
            parts(0, 0, 1000, 1000, 0) = 1
            parts(0, 0, 1001, 0, 0) = BAD
            count(0, 0, 10) = 1
            day(1) = 1
            pest(0, 0) = 5
            pest(0, 1) = 5
            """);
    }

    private static void days() {
        Script.run("SHARES of the number by (go on, stay, 2000 less both): of like rests to the lesser places", """
            count(0, 0, 1) = 1
            parts(0, 0, 1000, 1000, 0) = 1
            day(1) = 1
            # half each: it goes on
            pest(0, 0) = 0
            pest(0, 1) = 1
            count(1, 0, 1) = 1
            parts(1, 0, 500, 500, 0) = 1
            day(1) = 2
            # half is of the others: it is gone
            pest(1, 0) = 0
            pest(1, 1) = 0
            count(1, 0, 3) = 1
            day(1) = 3
            # 0.75, 0.75, 1.5: what is left goes to the first and the second
            pest(1, 0) = 1
            pest(1, 1) = 1
            count(1, 0, 1) = 1
            parts(1, 0, 0, 1000, 0) = 1
            day(1) = 4
            # stay and the others have a half each: it stays
            pest(1, 0) = 1
            """);
        Script.run("the first come to the next STAGE (of 3 they are gone), from what all were", """
            count(0, 0, 8) = 1
            count(0, 1, 80) = 1
            count(0, 2, 800) = 1
            count(0, 3, 8000) = 1
            parts(0, 0, 1000, 1000, 0) = 1
            parts(0, 1, 1000, 1000, 0) = 1
            parts(0, 2, 1000, 1000, 0) = 1
            parts(0, 3, 1000, 1000, 0) = 1
            day(1) = 1
            pest(0, 0) = 4
            pest(0, 1) = 44
            pest(0, 2) = 440
            pest(0, 3) = 4400
            # nothing of the DAY before is left over
            day(1) = 2
            pest(0, 0) = 2
            pest(0, 1) = 24
            pest(0, 2) = 242
            pest(0, 3) = 2420
            pest(1, 0) = 0
            """);
        Script.run("STAGE 0 gets the number of STAGE 3 times that one's young by 100, cut", """
            parts(0, 3, 0, 1000, 99) = 1
            count(0, 3, 1) = 1
            day(1) = 1
            pest(0, 0) = 0
            parts(0, 3, 0, 1000, 100) = 1
            count(0, 3, 1) = 1
            day(1) = 2
            pest(0, 0) = 1
            parts(0, 3, 0, 1000, 199) = 1
            count(0, 3, 1) = 1
            count(0, 0, 0) = 1
            day(1) = 3
            pest(0, 0) = 1
            parts(0, 3, 0, 1000, 1) = 1
            count(0, 3, 99) = 1
            count(0, 0, 0) = 1
            day(1) = 4
            pest(0, 0) = 0
            count(0, 3, 100) = 1
            day(1) = 5
            pest(0, 0) = 1
            # of STAGES 0 to 2 young count for nothing
            count(1, 0, 100) = 1
            count(1, 1, 100) = 1
            count(1, 2, 100) = 1
            parts(1, 0, 0, 0, 1000) = 1
            parts(1, 1, 0, 0, 1000) = 1
            parts(1, 2, 0, 0, 1000) = 1
            day(1) = 6
            pest(1, 0) = 0
            """);
        Script.run("What is above 1000000000 is cut to that", """
            parts(0, 3, 0, 0, 100) = 1
            count(0, 3, 1000000000) = 1
            day(1) = 1
            pest(0, 0) = 1000000000
            count(0, 0, 2) = 1
            parts(0, 0, 0, 1000, 0) = 1
            count(0, 3, 999999999) = 1
            day(1) = 2
            # 1 stays, 999999999 are young
            pest(0, 0) = 1000000000
            count(0, 0, 4) = 1
            count(0, 3, 999999999) = 1
            day(1) = 3
            pest(0, 0) = 1000000000
            count(0, 0, 1000000000) = 1
            count(0, 3, 1000000000) = 1
            parts(0, 3, 1000, 1000, 1000) = 1
            day(1) = 4
            pest(0, 0) = 1000000000
            pest(0, 3) = 500000000
            # on the way to the next STAGE: half and half are no more than 1000000000
            count(1, 0, 1000000000) = 1
            count(1, 1, 1000000000) = 1
            parts(1, 0, 1000, 0, 0) = 1
            parts(1, 1, 0, 1000, 0) = 1
            day(1) = 5
            pest(1, 1) = 1000000000
            """);
        Script.run("without PARTS all are others: gone", """
            count(0, 0, 5) = 1
            count(0, 3, 5) = 1
            day(1) = 1
            pest(0, 0) = 0
            pest(0, 1) = 0
            pest(0, 3) = 0
            """);
    }

    private static void manyDays() {
        Script.run("day: n (1 .. 50) DAYS; FULL: above 10000", """
            day(0) = BAD
            day(-1) = BAD
            day(51) = BAD
            day(-2147483648) = BAD
            day(2147483647) = BAD
            told(7) = 0
            day(50) = 50
            day(1) = 51
            198 * day(50)
            told(7) = 9951
            day(50) = FULL
            day(51) = BAD
            told(7) = 9951
            day(49) = 10000
            day(1) = FULL
            day(0) = BAD
            told(7) = 10000
            """);
        Script.run("a DAY that is FULL changes no number", """
            199 * day(50)
            day(49) = 9999
            count(0, 0, 10) = 1
            spray(1) = 1
            day(2) = FULL
            pest(0, 0) = 10
            wait1() = 7
            day(1) = 10000
            pest(0, 0) = 0
            wait1() = 6
            """);
    }

    private static void sprays() {
        Script.run("A SPRAY lessens all STAGES of a PEST to a fourth, cut", """
            count(0, 0, 3) = 1
            count(0, 1, 4) = 1
            count(0, 2, 7) = 1
            count(0, 3, 1000000000) = 1
            count(1, 0, 100) = 1
            spray(-1) = BAD
            spray(2) = BAD
            wait1() = 0
            pest(0, 1) = 4
            spray(0) = 1
            pest(0, 0) = 0
            pest(0, 1) = 1
            pest(0, 2) = 1
            pest(0, 3) = 250000000
            pest(1, 0) = 100
            """);
        Script.run("PARTS (0 .. 1000): the least and the greatest ones are as told", """
            count(0, 0, 2000) = 1
            parts(0, 0, 0, 1, 5) = 1
            count(0, 3, 7) = 1
            parts(0, 3, 1, 0, 1000) = 1
            day(1) = 1
            # 7 by 1, 0, 1999 is 0, 0, 7; 70 are young
            pest(0, 0) = 71
            pest(0, 1) = 0
            pest(0, 3) = 0
            count(1, 1, 2000) = 1
            parts(1, 1, 1, 0, 0) = 1
            count(1, 3, 2000) = 1
            parts(1, 3, 1000, 1000, 999) = 1
            day(1) = 2
            pest(1, 0) = 19980
            pest(1, 1) = 0
            pest(1, 2) = 1
            pest(1, 3) = 1000
            """);
        Script.run("the young by 100, cut: also of more than ints hold", """
            parts(0, 3, 1000, 0, 1000) = 1
            count(0, 3, 300000000) = 1
            day(1) = 1
            pest(0, 0) = 1000000000
            count(0, 0, 0) = 1
            count(0, 3, 99999999) = 1
            day(1) = 2
            pest(0, 0) = 999999990
            count(0, 0, 0) = 1
            parts(0, 3, 0, 0, 999) = 1
            count(0, 3, 100100100) = 1
            day(1) = 3
            pest(0, 0) = 999999999
            count(0, 3, 1000000000) = 1
            parts(0, 3, 0, 0, 100) = 1
            day(1) = 4
            pest(0, 0) = 1000000000
            """);
        Script.run("a SPRAY leaves the PARTS, which stay till others come", """
            parts(0, 0, 1000, 500, 9) = 1
            parts(0, 3, 7, 1000, 300) = 1
            count(0, 0, 40) = 1
            count(0, 3, 80) = 1
            spray(0) = 1
            # 10 by 1000, 500, 500 is 5, 3, 2; 20 by 7, 1000, 993 is 0, 10, 10; 60 are young
            day(1) = 1
            pest(0, 0) = 63
            pest(0, 1) = 5
            pest(0, 2) = 0
            pest(0, 3) = 10
            """);
        Script.run("for 7 DAYS then there is no PICKING (0: there is)", """
            wait1() = 0
            day(1) = 1
            wait1() = 0
            spray(1) = 1
            wait1() = 7
            day(1) = 2
            wait1() = 6
            day(5) = 7
            wait1() = 1
            spray(1) = 1
            wait1() = 7
            day(6) = 13
            wait1() = 1
            day(1) = 14
            wait1() = 0
            day(50) = 64
            wait1() = 0
            spray(0) = 1
            spray(1) = 1
            wait1() = 7
            day(50) = 114
            wait1() = 0
            """);
    }

    private static void whatIsWritten() {
        Script.run("6 CELLS at most, of LANES 1, 3, 4, 5", """
            row(0, 5, 6) = 1
            write(0) = 1
            row(0, 5, 7) = 1
            write(0) = FULL
            row(0, 5, 40) = 1
            write(0) = FULL
            row(0, 1, 0) = 1
            write(0) = 2
            row(0, 3, 1) = 1
            write(0) = 3
            row(0, 4, 6) = 1
            write(0) = 4
            row(0, 0, 1) = 1
            write(0) = -14
            row(0, 2, 1) = 1
            write(0) = -14
            row(0, 6, 1) = 1
            write(0) = -14
            row(0, 7, 1) = 1
            write(0) = -14
            # CAST ahead of FULL
            row(0, 7, 7) = 1
            write(0) = -14
            grid(0, 9, 1, 1, false) = 1
            write(0) = -14
            tray(0, 12, 1) = 1
            write(0) = -14
            plant(0, 0, 0, 0, 0, 0) = 0
            write(0) = -14
            card(0) = 0
            write(0) = -14
            write(15) = -11
            write(-1) = BAD
            write(16) = BAD
            told(3) = 4
            told(4) = 4
            told(2) = 10
            """);
        Script.run("an empty ROW, and zeros", """
            row(0, 5, 0) = 1
            write(0) = 1
            octet(0, 3) = 1
            octet(0, 4) = 5
            octet(0, 5) = 0
            octet(0, 12) = 0
            octet(0, 59) = 0
            page(0, 3) = 0
            page(0, 10) = NONE
            open1() = 1
            """);
    }

    private static void cellsWritten() {
        Script.run("the CELLS, 8 bytes each with their sign; numbers have their highest byte first", """
            row(0, 1, 2) = 1
            put(0, 1, 0, -128) = 1
            put(0, 1, 1, 127) = 1
            write(0) = 1
            octet(0, 12) = 255
            octet(0, 18) = 255
            octet(0, 19) = 128
            octet(0, 20) = 0
            octet(0, 27) = 127
            page(0, 10) = -128
            page(0, 11) = 127
            row(0, 5, 6) = 1
            put(0, 5, 0, 0x0102030405060708) = 1
            put(0, 5, 5, 0x8000000000000000) = 1
            write(0) = 2
            octet(1, 11) = 0
            octet(1, 12) = 1
            octet(1, 13) = 2
            octet(1, 19) = 8
            octet(1, 51) = 0
            octet(1, 52) = 128
            octet(1, 53) = 0
            octet(1, 59) = 0
            page(1, 10) = 0x0102030405060708
            page(1, 15) = 0x8000000000000000
            page(1, 16) = NONE
            row(0, 4, 1) = 1
            put(0, 4, 0, -2147483648) = 1
            write(0) = 3
            octet(2, 15) = 255
            octet(2, 16) = 128
            octet(2, 19) = 0
            page(2, 10) = -2147483648
            row(0, 3, 1) = 1
            put(0, 3, 0, -32768) = 1
            write(0) = 4
            page(3, 10) = -32768
            octet(3, 17) = 255
            octet(3, 18) = 128
            open1() = 4
            """);
    }

    private static void powerGoes() {
        Script.run("POWER may be set to go behind n bytes (0 .. 200; NONE: it stays)", """
            power(-2) = BAD
            power(201) = BAD
            power(2147483647) = BAD
            power(-2147483648) = BAD
            power(200) = 1
            power(0) = 1
            power(NONE) = 1
            row(0, 4, 1) = 1
            5 * write(0)
            told(3) = 5
            told(5) = 0
            """);
        Script.run("behind 0 bytes: its PAGE was not begun; its NUMBER is not the latest", """
            row(0, 4, 1) = 1
            write(0) = 1
            power(0) = 1
            told(5) = 0
            write(0) = NO
            told(5) = 1
            told(4) = 1
            told(3) = 1
            octet(1, 3) = 0
            octet(1, 4) = 0
            told(2) = 0
            """);
        Script.run("behind 200 bytes: three PAGES, and eight bytes", """
            row(0, 4, 1) = 1
            power(200) = 1
            write(0) = 1
            write(0) = 2
            write(0) = 3
            told(5) = 0
            write(0) = NO
            told(5) = 1
            told(4) = 4
            told(3) = 3
            octet(3, 3) = 4
            octet(3, 4) = 4
            octet(3, 5) = 1
            open1() = 3
            told(4) = 4
            write(0) = 4
            page(3, 0) = 4
            """);
        Script.run("behind 64 and 128 bytes: whole PAGES; the next one is not begun", """
            row(0, 4, 1) = 1
            power(64) = 1
            write(0) = 1
            told(5) = 0
            power(128) = 1
            write(0) = 2
            write(0) = 3
            told(5) = 0
            write(0) = NO
            told(4) = 3
            told(3) = 3
            open1() = 3
            """);
        Script.run("set anew ahead of its end, POWER counts from there", """
            row(0, 4, 1) = 1
            power(70) = 1
            write(0) = 1
            power(70) = 1
            write(0) = 2
            power(NONE) = 1
            write(0) = 3
            told(5) = 0
            """);
    }

    /** The byte that would come then, and all behind it, are not written; what lay there stays. */
    private static void powerAtEachByte() {
        Script.run("POWER may be set to go behind n bytes (0 .. 200): behind 200 and behind 199", """
            row(0, 5, 1) = 1
            damage(3, 7, 9) = 9
            damage(3, 8, 9) = 9
            power(200) = 1
            write(0) = 1
            write(0) = 2
            write(0) = 3
            told(5) = 0
            write(0) = NO
            octet(3, 5) = 1
            octet(3, 7) = 0
            octet(3, 8) = 9
            """);
        Script.run("POWER behind 199", """
            row(0, 5, 1) = 1
            damage(3, 7, 9) = 9
            damage(3, 6, 9) = 9
            power(199) = 1
            write(0) = 1
            write(0) = 2
            write(0) = 3
            write(0) = NO
            octet(3, 6) = 0
            octet(3, 7) = 9
            """);
        GlassHouse whole = new GlassHouse();
        fill(whole);
        whole.write(0);
        for (int n = 0; n <= 64; n++) {
            GlassHouse house = new GlassHouse();
            fill(house);
            for (int i = 0; i < 64; i++) {
                house.damage(0, i, 0xA5);
            }
            house.power(n);
            String title = "POWER behind " + n + " bytes: ";
            Script.due(title + "write", house.write(0), n < 64 ? GlassHouse.NO : 1);
            for (int i = 0; i < 64; i++) {
                Script.due(title + "byte " + i, house.octet(0, i), i < n ? whole.octet(0, i) : 0xA5);
            }
            Script.due(title + "DARK", house.told(5), n < 64 ? 1 : 0);
            Script.due(title + "the next PAGE", house.told(4), n > 0 ? 1 : 0);
            Script.due(title + "the latest NUMBER", house.told(3), n < 64 ? 0 : 1);
            Script.due(title + "READ", house.told(8), n < 64 ? 0 : 1);
            Script.due(title + "FAULTS", house.told(2), 0);
            Script.due(title + "OPENED", house.open1(), n < 64 ? 0 : 1);
            Script.due(title + "the next PAGE, OPENED", house.told(4), 1);
        }
    }

    private static void fill(GlassHouse house) {
        house.row(0, 5, 6);
        for (int c = 0; c < 6; c++) {
            house.put(0, 5, c, 0x0102030405060708L * (c + 1));
        }
    }

    private static void dark() {
        Script.run("nothing is WRITTEN (DARK) till the books are OPENED; CAST, NULL ahead of NO, NO ahead of FULL", """
            row(0, 4, 1) = 1
            row(1, 4, 7) = 1
            row(2, 7, 1) = 1
            power(0) = 1
            write(0) = NO
            write(0) = NO
            write(1) = NO
            write(2) = -14
            write(15) = -11
            write(16) = BAD
            power(0) = NO
            power(NONE) = NO
            power(200) = NO
            power(201) = BAD
            power(-2) = BAD
            told(5) = 1
            told(4) = 0
            open1() = 0
            told(5) = 0
            write(1) = FULL
            write(0) = 1
            """);
        Script.run("OPENED: POWER is set no more", """
            row(0, 4, 1) = 1
            power(10) = 1
            open1() = 0
            write(0) = 1
            power(10) = 1
            write(0) = NO
            open1() = 1
            write(0) = 2
            write(0) = 3
            told(5) = 0
            """);
    }

    private static void notWritten() {
        Script.run("FULL: more than 6 CELLS: POWER does not go by it", """
            row(0, 4, 7) = 1
            row(1, 4, 6) = 1
            power(0) = 1
            write(0) = FULL
            told(5) = 0
            write(15) = -11
            told(5) = 0
            write(1) = NO
            told(5) = 1
            """);
        Script.run("FULL: no PAGE", """
            row(0, 4, 1) = 1
            19 * write(0)
            told(4) = 19
            write(0) = 20
            told(4) = 20
            write(0) = FULL
            told(3) = 20
            told(5) = 0
            open1() = 20
            write(0) = FULL
            # the last PAGE is all 0 again: it is free when the books are OPENED
            damage(19, 59, 1) = 1
            write(0) = FULL
            told(8) = 19
            told(3) = 20
            open1() = 19
            told(3) = 19
            told(4) = 20
            write(0) = FULL
            """);
        Script.run("FULL: the last PAGE was begun and torn", """
            row(0, 4, 1) = 1
            19 * write(0)
            power(1) = 1
            write(0) = NO
            told(4) = 20
            told(3) = 19
            open1() = 19
            # its one byte is a zero
            told(4) = 19
            power(4) = 1
            write(0) = NO
            open1() = 19
            told(4) = 20
            write(0) = FULL
            """);
    }

    private static void octets() {
        Script.run("PAGES 0 .. 19, of 64 bytes, 0 at first", """
            octet(0, 0) = 0
            octet(19, 63) = 0
            octet(-1, 0) = BAD
            octet(20, 0) = BAD
            octet(0, -1) = BAD
            octet(0, 64) = BAD
            octet(19, 64) = BAD
            octet(2147483647, 0) = BAD
            octet(0, 2147483647) = BAD
            octet(-2147483648, 64) = BAD
            octet(1, -1) = BAD
            """);
        Script.run("damage: It becomes itself ^ mask (0 .. 255): what it is then", """
            damage(-1, 0, 1) = BAD
            damage(20, 0, 1) = BAD
            damage(0, -1, 1) = BAD
            damage(0, 64, 1) = BAD
            damage(1, -1, 1) = BAD
            damage(0, 0, -1) = BAD
            damage(0, 0, 256) = BAD
            damage(0, 0, -2147483648) = BAD
            octet(0, 0) = 0
            damage(0, 0, 0) = 0
            damage(0, 0, 255) = 255
            damage(0, 0, 255) = 0
            damage(19, 63, 170) = 170
            damage(19, 63, 85) = 255
            damage(19, 63, 0) = 255
            octet(19, 63) = 255
            octet(19, 62) = 0
            octet(18, 63) = 0
            """);
    }

    private static int sumOf(GlassHouse house, int page) {
        int sum = 0;
        for (int i = 0; i < 60; i++) {
            int turned = sum ^ house.octet(page, i);
            sum = ((turned << 11) | (turned >>> 21)) * 0xC2B2AE35;
        }
        return sum;
    }

    private static void becomes(GlassHouse house, int page, int i, int v) {
        house.damage(page, i, house.octet(page, i) ^ v);
    }

    /** Makes the SUM of a PAGE fit. */
    private static void mend(GlassHouse house, int page) {
        int sum = sumOf(house, page);
        for (int k = 0; k < 4; k++) {
            becomes(house, page, 60 + k, (sum >>> (24 - 8 * k)) & 255);
        }
    }

    /**
     * Whether a PAGE of a LANE with so many CELLS, all of these BITS, is WHOLE when one byte becomes another one, and the
     * SUM is made to fit: 0, 1; 2: the byte was that one already.
     */
    private static void whole(String title, int lane, int cells, long bits, int i, int v, int due) {
        GlassHouse house = new GlassHouse();
        house.row(0, lane, cells);
        for (int c = 0; c < cells; c++) {
            house.put(0, lane, c, bits);
        }
        house.write(0);
        becomes(house, 0, i, v);
        Script.due("A PAGE is WHOLE, without its SUM: " + title, house.told(8), due == 2 ? 1 : 0);
        mend(house, 0);
        Script.due("A PAGE is WHOLE: " + title, house.told(8), due == 0 ? 0 : 1);
        Script.due("A PAGE is WHOLE: OPENED, " + title, house.open1(), due == 0 ? 0 : 1);
    }

    private static void wholePages() {
        whole("with a NUMBER of 1 or more: 2", 4, 1, 0, 3, 2, 1);
        whole("with a NUMBER of 1 or more: 0", 4, 1, 0, 3, 0, 0);
        whole("with a NUMBER of 1 or more: -2147483647", 4, 1, 0, 0, 128, 0);
        whole("with a NUMBER of 1 or more: 2130706433", 4, 1, 0, 0, 127, 1);
        whole("LANE 0", 4, 1, 0, 4, 0, 0);
        whole("LANE 1", 4, 1, 0, 4, 1, 1);
        whole("LANE 2", 4, 1, 0, 4, 2, 0);
        whole("LANE 3", 4, 1, 0, 4, 3, 1);
        whole("LANE 5", 4, 1, 0, 4, 5, 1);
        whole("LANE 6", 4, 1, 0, 4, 6, 0);
        whole("LANE 7", 4, 1, 0, 4, 7, 0);
        whole("LANE 8", 4, 1, 0, 4, 8, 0);
        whole("LANE 255", 4, 1, 0, 4, 255, 0);
        whole("a CELL behind those it has", 4, 1, 5, 5, 0, 0);
        whole("no CELL, all zeros", 4, 1, 0, 5, 0, 1);
        whole("7 CELLS of zeros", 5, 6, 0, 5, 7, 0);
        whole("255 CELLS", 5, 6, -1, 5, 255, 0);
        for (int i = 6; i < 12; i++) {
            whole("6 to 11 zeros: byte " + i, 5, 6, -1, i, 1, 0);
        }
        whole("behind the CELLS zeros: the first byte", 5, 5, -1, 52, 1, 0);
        whole("behind the CELLS zeros: the last byte", 5, 5, -1, 59, 128, 0);
        whole("the last byte of the last CELL may be any", 5, 6, 0, 59, 77, 1);
        whole("the first byte of a long may be any", 5, 6, 0, 52, 77, 1);
        whole("an int with its sign: -1", 4, 1, -1, 19, 255, 2);
        whole("an int with another sign ahead of it", 4, 1, -1, 12, 127, 0);
        whole("an int: 2147483648", 4, 1, 0, 16, 128, 0);
        whole("an int: 2130706432", 4, 1, 0, 16, 127, 1);
        whole("a short: 32768", 3, 1, 0, 18, 128, 0);
        whole("a short: 32512", 3, 1, 0, 18, 127, 1);
        whole("a byte: 128", 1, 1, 0, 19, 128, 0);
        whole("a byte: 127", 1, 1, 0, 19, 127, 1);
        whole("a byte: -1 without one byte of its sign", 1, 1, -1, 15, 254, 0);
        whole("the last of six ints", 4, 6, 0, 52, 1, 0);
        whole("the last of six bytes", 1, 6, 7, 58, 1, 0);
    }

    /** Behind six CELLS the SUM follows at once: whatever it is, it is no CELL. */
    private static void longestPages() {
        for (int lane = 1; lane <= 5; lane++) {
            if (lane == 2) {
                continue;
            }
            for (int k = 0; k < 6; k++) {
                GlassHouse house = new GlassHouse();
                house.row(0, lane, 6);
                for (int c = 0; c < 6; c++) {
                    house.put(0, lane, c, 31L * k * (c + 1) - 60);
                }
                Script.due("six CELLS of LANE " + lane, house.write(0), 1);
                Script.due("six CELLS of LANE " + lane + " are READ", house.open1(), 1);
                Script.due("the last of six CELLS", house.page(0, 15), house.get(0, lane, 5));
                Script.due("behind the last of six CELLS", house.page(0, 16), GlassHouse.NONE);
                int sum = sumOf(house, 0);
                for (int b = 0; b < 4; b++) {
                    Script.due("60 .. 63 the SUM", house.octet(0, 60 + b), (sum >>> (24 - 8 * b)) & 255);
                }
            }
        }
    }

    private static void opened() {
        Script.run("OPENED: the latest NUMBER is the greatest of WHOLE PAGES (0)", """
            open1() = 0
            told(3) = 0
            row(0, 4, 1) = 1
            write(0) = 1
            write(0) = 2
            write(0) = 3
            damage(2, 20, 1) = 1
            told(3) = 3
            open1() = 2
            told(3) = 2
            damage(0, 20, 1) = 1
            damage(1, 20, 1) = 1
            open1() = 0
            told(3) = 0
            write(0) = 1
            page(0, 0) = 3
            """);
        Script.run("the next PAGE is that behind the last one that is not all 0", """
            told(4) = 0
            open1() = 0
            told(4) = 0
            damage(7, 0, 1) = 1
            told(4) = 0
            open1() = 0
            told(4) = 8
            damage(7, 0, 1) = 0
            damage(7, 63, 1) = 1
            open1() = 0
            told(4) = 8
            damage(19, 30, 1) = 1
            open1() = 0
            told(4) = 20
            row(0, 4, 1) = 1
            write(0) = FULL
            damage(19, 30, 1) = 0
            open1() = 0
            told(4) = 8
            write(0) = 1
            page(0, 0) = 8
            told(4) = 9
            damage(7, 63, 1) = 0
            damage(0, 0, 1) = 1
            open1() = 1
            told(4) = 9
            """);
        Script.run("the PAGE behind the last one that was begun, whatever lies on it", """
            row(0, 4, 1) = 1
            damage(0, 63, 9) = 9
            damage(1, 0, 1) = 1
            write(0) = 1
            page(0, 0) = 0
            write(0) = 2
            page(1, 0) = 1
            told(4) = 2
            """);
    }

    private static void read() {
        Script.run("page: NONE: none such", """
            page(0, 0) = NONE
            page(0, 1) = NONE
            page(-1, 0) = NONE
            row(0, 4, 2) = 1
            put(0, 4, 0, 8) = 1
            put(0, 4, 1, -8) = 1
            write(0) = 1
            page(0, -1) = NONE
            page(0, 0) = 0
            page(0, 1) = 1
            page(0, 2) = 4
            page(0, 3) = 2
            page(0, 4) = NONE
            page(0, 9) = NONE
            page(0, 10) = 8
            page(0, 11) = -8
            page(0, 12) = NONE
            page(0, 2147483647) = NONE
            page(0, -2147483648) = NONE
            page(1, 0) = NONE
            page(-1, 0) = NONE
            page(2147483647, 0) = NONE
            page(-2147483648, 0) = NONE
            """);
        Script.run("READ are WHOLE PAGES by their NUMBERS, each NUMBER once: that of the least PAGE; as PAGES are now", """
            row(0, 4, 1) = 1
            write(0) = 1
            write(0) = 2
            damage(0, 40, 1) = 1
            damage(1, 40, 1) = 1
            open1() = 0
            write(0) = 1
            damage(2, 40, 1) = 1
            open1() = 0
            put(0, 4, 0, 7) = 1
            write(0) = 1
            write(0) = 2
            # PAGE 3 has 1, PAGE 4 has 2
            page(0, 0) = 3
            page(1, 0) = 4
            damage(1, 40, 1) = 0
            page(1, 0) = 1
            page(1, 10) = 0
            told(8) = 2
            damage(2, 40, 1) = 0
            page(0, 0) = 2
            damage(0, 40, 1) = 0
            page(0, 0) = 0
            page(2, 0) = NONE
            told(8) = 2
            open1() = 2
            damage(0, 40, 1) = 1
            page(0, 0) = 2
            """);
        Script.run("twenty are READ", """
            row(0, 4, 1) = 1
            20 * write(0)
            told(8) = 20
            page(19, 0) = 19
            page(19, 1) = 20
            page(20, 0) = NONE
            open1() = 20
            """);
    }

    private static void clashes() {
        // PAGES 0 to 3 get the NUMBER 1: a PAGE that is not WHOLE is not READ when the books are OPENED.
        String four = """
            row(0, 4, 1) = 1
            write(0) = 1
            damage(0, 50, 1) = 1
            open1() = 0
            put(0, 4, 0, 5) = 1
            write(0) = 1
            damage(1, 50, 1) = 1
            open1() = 0
            write(0) = 1
            damage(2, 50, 1) = 1
            open1() = 0
            put(0, 4, 0, 0) = 1
            write(0) = 1
            told(6) = 0
            """;
        Script.run("CLASH: other bytes than the least one with it", four + """
            damage(2, 50, 1) = 0
            # 2 and 3
            told(6) = 1
            damage(1, 50, 1) = 0
            # 1, 2 and 3: PAGE 2 is as PAGE 1
            told(6) = 1
            damage(0, 50, 1) = 0
            # 0 to 3: 1 and 2 are not as PAGE 0, PAGE 3 is
            told(6) = 2
            told(8) = 1
            page(0, 10) = 0
            # one that is not WHOLE is none, though its NUMBER is the same
            damage(2, 50, 1) = 1
            told(6) = 1
            damage(1, 50, 1) = 1
            told(6) = 0
            # nor does the least one count that is not WHOLE
            damage(0, 50, 1) = 1
            damage(1, 50, 1) = 0
            told(6) = 1
            """);
        Script.run("CLASH: of several NUMBERS", """
            row(0, 4, 1) = 1
            write(0) = 1
            write(0) = 2
            damage(0, 50, 1) = 1
            damage(1, 50, 1) = 1
            open1() = 0
            write(0) = 1
            put(0, 4, 0, 3) = 1
            write(0) = 2
            damage(0, 50, 1) = 0
            told(6) = 0
            damage(1, 50, 1) = 0
            told(6) = 1
            told(8) = 2
            page(1, 10) = 0
            """);
    }

    private static void greatestNumber() {
        GlassHouse house = new GlassHouse();
        house.row(0, 4, 1);
        house.write(0);
        for (int i = 0; i < 4; i++) {
            becomes(house, 0, i, i == 0 ? 127 : 255);
        }
        mend(house, 0);
        Script.due("a NUMBER that is READ is not the latest till the books are OPENED", house.told(3), 1);
        Script.due("the NUMBER behind it", house.write(0), 2);
        Script.due("OPENED", house.open1(), 2);
        Script.due("the latest NUMBER is 2147483647", house.told(3), 2147483647);
        Script.due("by their NUMBERS: the greatest last", house.page(1, 1), 2147483647);
        Script.due("its PAGE", house.page(1, 0), 0);
        house.power(0);
        Script.due("FULL: the latest NUMBER is 2147483647", house.write(0), GlassHouse.FULL);
        Script.due("POWER does not go by it", house.told(5), 0);
        Script.due("the next PAGE stays", house.told(4), 2);
        house.damage(0, 59, 1);
        Script.due("OPENED without it", house.open1(), 1);
        Script.due("the latest NUMBER then", house.told(3), 2);
        Script.due("and the next one", house.write(0), 3);
    }

    private static void told() {
        Script.run("told: 0 to 10; BAD", """
            told(-1) = BAD
            told(11) = BAD
            told(2147483647) = BAD
            told(-2147483648) = BAD
            told(0) = 0
            told(10) = 0
            fault() = 0
            """);
    }
}

/** Promises 68 to 74: pages. */
public final class BooksTest {
    public static void main(String[] args) {
        writing();
        power();
        opening();
        damaged();
        wholePages();
        fullBooks();
        greatestNumber();
        Script.end();
    }

    private static void writing() {
        Script.run("promises 68 and 72, write and octet", """
            row(0, 3, 2) = 1
            put(0, 3, 0, -2) = 1
            put(0, 3, 1, 258) = 1
            write(0) = 1
            octet(0, 0) = 0
            octet(0, 3) = 1
            octet(0, 4) = 3
            octet(0, 5) = 2
            octet(0, 6) = 0
            octet(0, 11) = 0
            octet(0, 12) = 255
            octet(0, 18) = 255
            octet(0, 19) = 254
            octet(0, 20) = 0
            octet(0, 26) = 1
            octet(0, 27) = 2
            octet(0, 28) = 0
            octet(0, 59) = 0
            told(3) = 1
            told(4) = 1
            told(8) = 1
            octet(20, 0) = BAD
            octet(-1, 0) = BAD
            octet(0, 64) = BAD
            octet(0, -1) = BAD
            row(1, 5, 6) = 1
            put(1, 5, 5, 0x8000000000000001) = 1
            write(1) = 2
            octet(1, 4) = 5
            octet(1, 52) = 128
            octet(1, 59) = 1
            row(2, 1, 0) = 1
            write(2) = 3
            row(2, 4, 7) = 1
            write(2) = FULL
            row(2, 2, 1) = 1
            write(2) = -14
            row(2, 0, 1) = 1
            write(2) = -14
            row(2, 6, 1) = 1
            write(2) = -14
            row(2, 7, 1) = 1
            write(2) = -14
            grid(2, 9, 1, 1, false) = 1
            write(2) = -14
            card(2) = 0
            write(2) = -14
            write(9) = -11
            write(16) = BAD
            write(-1) = BAD
            told(3) = 3
            told(4) = 3
            """);
        sums();
    }

    /** The sum of a page is worked here once more from the bytes ahead of it. */
    private static void sums() {
        GlassHouse house = new GlassHouse();
        house.row(0, 4, 6);
        for (int i = 0; i < 6; i++) {
            house.put(0, 4, i, 1000003L * i - 7);
        }
        house.write(0);
        house.write(0);
        for (int page = 0; page < 2; page++) {
            int sum = 0;
            for (int i = 0; i < 60; i++) {
                int turned = sum ^ house.octet(page, i);
                sum = ((turned << 11) | (turned >>> 21)) * 0xC2B2AE35;
            }
            for (int k = 0; k < 4; k++) {
                Script.due("promise 68, sum of page " + page, house.octet(page, 60 + k), (sum >>> (24 - 8 * k)) & 255);
            }
        }
    }

    private static void power() {
        Script.run("promise 69, power", """
            row(0, 4, 1) = 1
            put(0, 4, 0, 5) = 1
            power(201) = BAD
            power(-2) = BAD
            power(200) = 1
            power(NONE) = 1
            write(0) = 1
            # sixty-four bytes are enough for one page
            power(64) = 1
            write(0) = 2
            told(5) = 0
            write(0) = NO
            told(5) = 1
            # no byte was written: the page was not begun
            told(4) = 2
            told(3) = 2
            power(5) = NO
            power(NONE) = NO
            power(201) = BAD
            write(0) = NO
            write(9) = -11
            card(1) = 0
            write(1) = -14
            row(2, 4, 7) = 1
            write(2) = NO
            open1() = 2
            told(5) = 0
            told(3) = 2
            write(0) = 3
            page(2, 0) = 2
            """);
        Script.run("promise 69, a page that is torn", """
            row(0, 4, 1) = 1
            put(0, 4, 0, -1) = 1
            power(5) = 1
            write(0) = NO
            told(5) = 1
            told(4) = 1
            told(3) = 0
            octet(0, 3) = 1
            octet(0, 4) = 4
            octet(0, 5) = 0
            octet(0, 12) = 0
            page(0, 0) = NONE
            open1() = 0
            told(4) = 1
            write(0) = 1
            page(0, 0) = 1
            # only zeros were written: opened, the page is free again
            power(3) = 1
            write(0) = NO
            told(4) = 3
            open1() = 1
            told(4) = 2
            told(3) = 1
            # the power that goes within the second page
            power(100) = 1
            write(0) = 2
            write(0) = NO
            octet(3, 35) = 0
            octet(3, 19) = 255
            told(3) = 2
            told(4) = 4
            # all but the last byte
            open1() = 2
            power(63) = 1
            write(0) = NO
            told(8) = 2
            open1() = 2
            told(4) = 5
            # one byte is enough to begin a page
            power(1) = 1
            write(0) = NO
            told(4) = 6
            open1() = 2
            told(4) = 5
            # power set anew
            power(0) = 1
            power(200) = 1
            write(0) = 3
            # and set no more by opening
            power(0) = 1
            open1() = 3
            write(0) = 4
            """);
    }

    private static void opening() {
        Script.run("promises 70, 71 and 74, what is read", """
            row(0, 1, 2) = 1
            put(0, 1, 0, -7) = 1
            put(0, 1, 1, 9) = 1
            write(0) = 1
            row(1, 5, 0) = 1
            write(1) = 2
            open1() = 2
            page(0, 0) = 0
            page(0, 1) = 1
            page(0, 2) = 1
            page(0, 3) = 2
            page(0, 10) = -7
            page(0, 11) = 9
            page(0, 12) = NONE
            page(0, 4) = NONE
            page(0, 9) = NONE
            page(0, -1) = NONE
            page(1, 0) = 1
            page(1, 1) = 2
            page(1, 2) = 5
            page(1, 3) = 0
            page(1, 10) = NONE
            page(2, 0) = NONE
            page(-1, 0) = NONE
            told(8) = 2
            # the first page is damaged: its number is read no more, the latest stays
            damage(0, 30, 1) = 1
            told(8) = 1
            page(0, 1) = 2
            page(1, 1) = NONE
            told(3) = 2
            open1() = 1
            told(3) = 2
            damage(1, 3, 1) = 3
            told(3) = 2
            open1() = 0
            told(3) = 0
            told(4) = 2
            write(0) = 1
            page(0, 0) = 2
            # mended, it is the least page with the number
            damage(0, 30, 1) = 0
            page(0, 0) = 0
            told(8) = 1
            # the same bytes are no clash
            told(6) = 0
            damage(1, 3, 1) = 2
            told(8) = 2
            """);
        Script.run("promise 74, clashes", """
            row(0, 4, 1) = 1
            write(0) = 1
            damage(0, 0, 1) = 1
            open1() = 0
            put(0, 4, 0, 1) = 1
            write(0) = 1
            damage(1, 0, 1) = 1
            open1() = 0
            put(0, 4, 0, 0) = 1
            write(0) = 1
            told(6) = 0
            damage(1, 0, 1) = 0
            # pages 1 and 2 have one number and other bytes
            told(6) = 1
            told(8) = 1
            page(0, 0) = 1
            page(0, 10) = 1
            # now page 0 is the least, and page 2 is like it
            damage(0, 0, 1) = 0
            told(6) = 1
            page(0, 0) = 0
            page(0, 10) = 0
            told(11) = BAD
            told(-1) = BAD
            """);
        Script.run("promise 71, by their numbers", """
            row(0, 4, 0) = 1
            write(0) = 1
            write(0) = 2
            damage(0, 59, 1) = 1
            damage(1, 59, 1) = 1
            open1() = 0
            write(0) = 1
            damage(1, 59, 1) = 0
            # page 1 has 2, page 2 has 1
            page(0, 0) = 2
            page(1, 0) = 1
            open1() = 2
            told(3) = 2
            write(0) = 3
            page(2, 0) = 3
            """);
    }

    private static void damaged() {
        Script.run("promise 73, damage", """
            damage(19, 63, 255) = 255
            octet(19, 63) = 255
            damage(19, 63, 15) = 240
            damage(19, 63, 0) = 240
            told(4) = 0
            open1() = 0
            told(4) = 20
            row(0, 4, 1) = 1
            write(0) = FULL
            damage(19, 63, 240) = 0
            open1() = 0
            told(4) = 0
            # one byte at either end of a page is enough
            damage(5, 0, 1) = 1
            open1() = 0
            told(4) = 6
            damage(5, 0, 1) = 0
            open1() = 0
            told(4) = 0
            damage(20, 0, 1) = BAD
            damage(-1, 0, 1) = BAD
            damage(0, 64, 1) = BAD
            damage(0, -1, 1) = BAD
            damage(0, 0, 256) = BAD
            damage(0, 0, -1) = BAD
            octet(0, 0) = 0
            # what lies on the page is written over
            damage(0, 59, 9) = 9
            write(0) = 1
            octet(0, 59) = 0
            told(8) = 1
            """);
    }

    /** Makes the sum of a page fit what lies on it. */
    private static void mend(GlassHouse house, int page) {
        int sum = 0;
        for (int i = 0; i < 60; i++) {
            sum = Integer.rotateLeft(sum ^ house.octet(page, i), 11) * 0xC2B2AE35;
        }
        for (int k = 0; k < 4; k++) {
            house.damage(page, 60 + k, house.octet(page, 60 + k) ^ ((sum >>> (24 - 8 * k)) & 255));
        }
    }

    private static void byteBecomes(GlassHouse house, int page, int i, int v) {
        house.damage(page, i, house.octet(page, i) ^ v);
    }

    /** The sum may fit: it must be as such a page is written, too. */
    private static void wholePages() {
        int[][] cases = {
            // place, byte, how many are read then
            {3, 9, 1}, {3, 0, 0}, {0, 128, 0}, {0, 127, 1}, {4, 0, 0}, {4, 1, 1}, {4, 2, 0}, {4, 3, 1}, {4, 5, 1},
            {4, 6, 0}, {4, 7, 0}, {5, 2, 1}, {5, 6, 1}, {5, 7, 0}, {5, 0, 0}, {6, 1, 0}, {11, 1, 0}, {12, 1, 0},
            {16, 128, 0}, {19, 200, 1}, {20, 1, 0}, {59, 1, 0}};
        for (int[] one : cases) {
            GlassHouse house = new GlassHouse();
            house.row(0, 4, 1);
            house.put(0, 4, 0, 100);
            house.write(0);
            byteBecomes(house, 0, one[0], one[1]);
            mend(house, 0);
            Script.due("promise 70, byte " + one[0] + " is " + one[1], house.open1(), one[2]);
        }
        bytesOutOfRange();
    }

    private static void bytesOutOfRange() {
        GlassHouse house = new GlassHouse();
        house.row(0, 4, 1);
        house.put(0, 4, 0, 128);
        house.write(0);
        byteBecomes(house, 0, 4, 1);
        mend(house, 0);
        Script.due("promise 70, 128 is no byte", house.told(8), 0);
        byteBecomes(house, 0, 4, 3);
        mend(house, 0);
        Script.due("promise 70, 128 is a short", house.told(8), 1);
        Script.due("promise 71, its lane", house.page(0, 2), 3);
    }

    private static void fullBooks() {
        Script.run("promise 68, twenty pages", """
            row(0, 4, 1) = 1
            19 * write(0)
            write(0) = 20
            told(4) = 20
            write(0) = FULL
            open1() = 20
            write(0) = FULL
            page(19, 1) = 20
            told(8) = 20
            told(6) = 0
            power(0) = 1
            # no page: the power does not go
            write(0) = FULL
            told(5) = 0
            """);
    }

    private static void greatestNumber() {
        GlassHouse house = new GlassHouse();
        house.row(0, 4, 1);
        house.write(0);
        byteBecomes(house, 0, 0, 127);
        byteBecomes(house, 0, 1, 255);
        byteBecomes(house, 0, 2, 255);
        byteBecomes(house, 0, 3, 254);
        mend(house, 0);
        Script.due("promise 70, a great number", house.open1(), 1);
        Script.due("promise 74, the latest", house.told(3), 2147483646);
        Script.due("promise 68, the greatest", house.write(0), 2147483647);
        Script.due("promise 68, behind the greatest", house.write(0), GlassHouse.FULL);
        Script.due("promise 74, the latest stays", house.told(3), 2147483647);
        Script.due("promise 71, its number", house.page(1, 1), 2147483647);
    }
}

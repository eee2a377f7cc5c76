/** The edges of the document's part 7, water and feeds: each run bears the sentence that names the edge. */
public final class FeedEdgesTest {
    public static void main(String[] args) {
        sharesOfN();
        sharesRefused();
        quotients();
        compares();
        extremes();
        sums();
        everyExponent();
        middles();
        means();
        contents();
        smallFeeds();
        worked();
        feeds();
        Script.end();
    }

    private static void sharesOfN() {
        Script.run("SHARES: what is left goes by one each to those with the greatest rests, of like ones to the lesser places", """
            row(0, 4, 4) = 1
            put(0, 4, 0, 1) = 1
            put(0, 4, 1, 1) = 1
            put(0, 4, 2, 1) = 1
            put(0, 4, 3, 1) = 1
            shares(0, 0, 1) = 1
            get(1, 5, 0) = 0
            get(1, 5, 3) = 0
            shares(0, 1, 1) = 1
            get(1, 5, 0) = 1
            get(1, 5, 1) = 0
            shares(0, 3, 1) = 1
            get(1, 5, 2) = 1
            get(1, 5, 3) = 0
            shares(0, 4, 1) = 1
            get(1, 5, 3) = 1
            shares(0, 7, 1) = 1
            get(1, 5, 2) = 2
            get(1, 5, 3) = 1
            # rests 1, 2, 3 by 6: the greatest is the last one's
            row(0, 4, 3) = 1
            put(0, 4, 0, 1) = 1
            put(0, 4, 1, 2) = 1
            put(0, 4, 2, 3) = 1
            shares(0, 1, 1) = 1
            get(1, 5, 0) = 0
            get(1, 5, 1) = 0
            get(1, 5, 2) = 1
            # a CELL of 0 gets nothing, though it stands first
            put(0, 4, 0, 0) = 1
            shares(0, 2, 1) = 1
            get(1, 5, 0) = 0
            get(1, 5, 1) = 1
            get(1, 5, 2) = 1
            """);
        Script.run("SHARES of one CELL alone, and of forty of the greatest ones", """
            row(0, 4, 1) = 1
            put(0, 4, 0, 2147483647) = 1
            shares(0, 1000000000, 1) = 1
            get(1, 5, 0) = 1000000000
            size(1, 0) = 1
            row(2, 4, 40) = 1
            put(2, 4, 0, 2147483647) = 1
            shift(2, 0, 2, 1, 1) = 1
            shift(2, 0, 2, 2, 2) = 2
            shift(2, 0, 2, 4, 4) = 4
            shift(2, 0, 2, 8, 8) = 8
            shift(2, 0, 2, 16, 16) = 16
            shift(2, 0, 2, 32, 8) = 8
            get(2, 4, 39) = 2147483647
            shares(2, 999999999, 3) = 1
            get(3, 5, 0) = 25000000
            get(3, 5, 38) = 25000000
            get(3, 5, 39) = 24999999
            """);
    }

    private static void sharesRefused() {
        Script.run("SHARES: rests that are no ints", """
            row(0, 4, 4) = 1
            put(0, 4, 0, 2147483647) = 1
            put(0, 4, 1, 2147483646) = 1
            put(0, 4, 2, 1) = 1
            put(0, 4, 3, 2147483645) = 1
            # the rests are 4294967294, 4294967292, 2, 4294967290
            shares(0, 2, 1) = 1
            get(1, 5, 0) = 1
            get(1, 5, 1) = 1
            get(1, 5, 2) = 0
            get(1, 5, 3) = 0
            # 2147483649, 2147483645, 4, 2147483641
            shares(0, 4, 1) = 1
            get(1, 5, 0) = 2
            get(1, 5, 1) = 1
            get(1, 5, 2) = 0
            get(1, 5, 3) = 1
            """);
        Script.run("shares: BAD: BINS, n (0 .. 1000000000); CAST, NULL ahead of NO", """
            row(0, 4, 1) = 1
            put(0, 4, 0, 1) = 1
            row(5, 4, 2) = 1
            shares(0, -1, 1) = BAD
            shares(0, 1000000001, 1) = BAD
            shares(0, -2147483648, 1) = BAD
            shares(-1, 1, 1) = BAD
            shares(16, 1, 1) = BAD
            shares(0, 1, -1) = BAD
            shares(0, 1, 16) = BAD
            told(2) = 0
            row(1, 5, 1) = 1
            shares(1, 1, 5) = -14
            card(2) = 0
            shares(2, 1, 5) = -14
            shares(9, 1, 5) = -11
            told(2) = 3
            form(5) = 4
            told(1) = 4
            """);
        Script.run("(NO: a CELL below 0, or all are 0, or there is none.)", """
            row(0, 4, 0) = 1
            shares(0, 0, 5) = NO
            shares(0, 5, 5) = NO
            row(0, 4, 3) = 1
            shares(0, 5, 5) = NO
            put(0, 4, 2, -1) = 1
            shares(0, 5, 5) = NO
            put(0, 4, 0, 5) = 1
            shares(0, 5, 5) = NO
            put(0, 4, 2, -2147483648) = 1
            shares(0, 0, 5) = NO
            form(5) = NONE
            told(1) = 2
            told(2) = 0
            put(0, 4, 2, 0) = 1
            shares(0, 5, 5) = 1
            get(5, 5, 0) = 5
            told(1) = 3
            """);
    }

    private static void quotients() {
        Script.run("quotient: in ints (of the lowest 32 bits), longs; ZERO", """
            quotient(4, 2147483648, 1, 0) = -2147483648
            quotient(4, 2147483648, -1, 0) = -2147483648
            quotient(4, 2147483648, 4294967295, 1) = 0
            quotient(4, 4294967296, 5, 0) = 0
            quotient(4, 5, 4294967297, 0) = 5
            quotient(4, -7, 3, 0) = -2
            quotient(4, -7, 3, 1) = -1
            quotient(4, 7, -3, 0) = -2
            quotient(4, 7, -3, 1) = 1
            quotient(5, 0x8000000000000000, -1, 0) = 0x8000000000000000
            quotient(5, 0x8000000000000000, -1, 1) = 0
            quotient(5, 2147483648, -1, 0) = -2147483648
            quotient(5, 0x7FFFFFFFFFFFFFFF, 0x8000000000000000, 0) = 0
            quotient(5, 0x7FFFFFFFFFFFFFFF, 0x8000000000000000, 1) = 0x7FFFFFFFFFFFFFFF
            told(2) = 0
            quotient(4, 1, 0, 0) = 0
            quotient(4, 1, 0, 1) = 0
            quotient(4, 1, 4294967296, 1) = 0
            quotient(5, 1, 0, 0) = 0
            quotient(5, 0, 0, 1) = 0
            told(2) = 5
            fault() = 6
            quotient(5, 4294967296, 4294967296, 0) = 1
            """);
        Script.run("quotient: BAD: 0, ahead of ZERO", """
            quotient(3, 5, 1, 0) = 0
            quotient(6, 5, 1, 0) = 0
            quotient(-1, 5, 1, 0) = 0
            quotient(4, 5, 1, -1) = 0
            quotient(4, 5, 1, 2) = 0
            quotient(5, 5, 1, 2) = 0
            quotient(3, 5, 0, 0) = 0
            quotient(4, 5, 0, 2) = 0
            quotient(5, 5, 0, -1) = 0
            told(2) = 0
            fault() = 0
            """);
    }

    private static void compares() {
        Script.run("compare, as the machine compares them: no number, 0.0 and -0.0, endless ones", """
            row(0, 7, 6) = 1
            put(0, 7, 1, d-0.0) = 1
            put(0, 7, 2, dNaN) = 1
            put(0, 7, 3, 0x7FF0000000000000) = 1
            put(0, 7, 4, 0xFFF0000000000000) = 1
            put(0, 7, 5, 0x8000000000000001) = 1
            compare(7, 0, 0, 0, 1) = 26
            compare(7, 0, 1, 0, 0) = 26
            compare(7, 0, 2, 0, 2) = 32
            compare(7, 0, 2, 0, 3) = 32
            compare(7, 0, 4, 0, 2) = 32
            compare(7, 0, 3, 0, 3) = 26
            compare(7, 0, 4, 0, 3) = 35
            compare(7, 0, 3, 0, 4) = 44
            compare(7, 0, 5, 0, 0) = 35
            compare(7, 0, 5, 0, 1) = 35
            compare(7, 0, 1, 0, 5) = 44
            compare(7, 0, 4, 0, 5) = 35
            row(1, 6, 4) = 1
            put(1, 6, 1, f-0.0) = 1
            put(1, 6, 2, fNaN) = 1
            put(1, 6, 3, 0x80000001) = 1
            compare(6, 1, 0, 1, 1) = 26
            compare(6, 1, 2, 1, 2) = 32
            compare(6, 1, 0, 1, 2) = 32
            compare(6, 1, 3, 1, 0) = 35
            compare(6, 1, 1, 1, 3) = 44
            told(2) = 0
            """);
        Script.run("compare: CAST (the first, then the other one), then NULL, INDEX of the first, then of the other one", """
            row(0, 7, 2) = 1
            row(1, 6, 2) = 1
            compare(7, 1, 9, 0, 9) = -14
            compare(7, 0, 9, 1, 9) = -14
            compare(7, 15, 0, 1, 0) = -14
            compare(7, 1, 0, 15, 0) = -14
            compare(7, 15, 0, 0, 9) = -11
            compare(7, 0, 2, 15, 0) = -12
            compare(7, 0, -1, 15, 0) = -12
            compare(7, 0, 1, 15, 0) = -11
            compare(7, 0, 1, 0, 2) = -12
            compare(7, 0, 1, 0, -1) = -12
            compare(7, 0, 1, 0, 2147483647) = -12
            told(2) = 11
            compare(5, 0, 0, 0, 0) = BAD
            compare(8, 0, 0, 0, 0) = BAD
            compare(7, -1, 0, 0, 0) = BAD
            compare(7, 16, 0, 0, 0) = BAD
            compare(7, 0, 0, -1, 0) = BAD
            compare(7, 0, 0, 16, 0) = BAD
            told(2) = 11
            """);
    }

    private static void extremes() {
        Script.run("real: none: no number", """
            row(0, 7, 0) = 1
            real(7, 0, 0) = dNaN
            real(7, 0, 1) = dNaN
            real(7, 0, 2) = dNaN
            real(7, 0, 3) = dNaN
            row(0, 6, 2) = 1
            put(0, 6, 0, fNaN) = 1
            put(0, 6, 1, fNaN) = 1
            real(6, 0, 0) = dNaN
            real(6, 0, 1) = dNaN
            real(6, 0, 2) = dNaN
            real(6, 0, 3) = dNaN
            told(2) = 0
            """);
        Script.run("real: BAD (0), CAST, NULL", """
            row(0, 7, 1) = 1
            put(0, 7, 0, d5.0) = 1
            real(7, 0, 0) = d5.0
            real(7, 0, -1) = 0
            real(7, 0, 4) = 0
            real(5, 0, 0) = 0
            real(8, 0, 0) = 0
            real(7, -1, 0) = 0
            real(7, 16, 0) = 0
            told(2) = 0
            real(6, 0, 0) = 0
            fault() = 4
            real(7, 15, 0) = 0
            fault() = 1
            real(6, 15, 3) = 0
            told(2) = 3
            """);
        Script.run("real: the least, the greatest (-0.0 below 0.0)", """
            row(0, 7, 3) = 1
            put(0, 7, 1, d-0.0) = 1
            put(0, 7, 2, dNaN) = 1
            real(7, 0, 0) = d-0.0
            real(7, 0, 1) = d0.0
            put(0, 7, 0, d-0.0) = 1
            real(7, 0, 1) = d-0.0
            # two that lie side by side
            put(0, 7, 0, 0x4000000000000001) = 1
            put(0, 7, 2, 0x4000000000000000) = 1
            put(0, 7, 1, dNaN) = 1
            real(7, 0, 0) = 0x4000000000000000
            real(7, 0, 1) = 0x4000000000000001
            put(0, 7, 0, 0xC000000000000001) = 1
            put(0, 7, 2, 0xC000000000000000) = 1
            real(7, 0, 0) = 0xC000000000000001
            real(7, 0, 1) = 0xC000000000000000
            compare(7, 0, 0, 0, 2) = 35
            put(0, 7, 1, d-0.0) = 1
            put(0, 7, 0, 0x7FF0000000000000) = 1
            put(0, 7, 2, 0xFFF0000000000000) = 1
            real(7, 0, 0) = 0xFFF0000000000000
            real(7, 0, 1) = 0x7FF0000000000000
            real(7, 0, 3) = d-0.0
            row(1, 6, 2) = 1
            put(1, 6, 0, f-0.0) = 1
            real(6, 1, 0) = d-0.0
            real(6, 1, 1) = d0.0
            put(1, 6, 1, 0x80000001) = 1
            real(6, 1, 0) = d-1.401298464324817E-45
            put(1, 6, 1, 0x7F7FFFFF) = 1
            real(6, 1, 1) = d3.4028234663852886E38
            put(1, 6, 1, 0x7F800000) = 1
            real(6, 1, 1) = 0x7FF0000000000000
            put(1, 6, 1, 0x00800000) = 1
            real(6, 1, 1) = d1.1754943508222875E-38
            """);
    }

    private static void sums() {
        Script.run("the sum, in order from 0.0 on, by how many", """
            row(0, 7, 3) = 1
            put(0, 7, 0, d1.0) = 1
            put(0, 7, 1, d1.0E16) = 1
            put(0, 7, 2, d-1.0E16) = 1
            real(7, 0, 2) = d0.0
            put(0, 7, 0, d1.0E16) = 1
            put(0, 7, 1, d-1.0E16) = 1
            put(0, 7, 2, d1.0) = 1
            real(7, 0, 2) = d0.3333333333333333
            put(0, 7, 0, d1.0E308) = 1
            put(0, 7, 1, d1.0E308) = 1
            put(0, 7, 2, d-1.0E308) = 1
            real(7, 0, 2) = 0x7FF0000000000000
            put(0, 7, 1, d-1.0E308) = 1
            put(0, 7, 2, d3.0) = 1
            real(7, 0, 2) = d1.0
            put(0, 7, 1, dNaN) = 1
            put(0, 7, 0, dNaN) = 1
            real(7, 0, 2) = d3.0
            """);
        Script.run("the sum: endless ones, and endless less endless: no number", """
            row(0, 7, 1) = 1
            put(0, 7, 0, 0xFFF0000000000000) = 1
            real(7, 0, 2) = 0xFFF0000000000000
            put(0, 7, 0, 0x7FF0000000000000) = 1
            real(7, 0, 2) = 0x7FF0000000000000
            row(0, 7, 3) = 1
            put(0, 7, 0, 0xFFF0000000000000) = 1
            put(0, 7, 1, 0xFFF0000000000000) = 1
            put(0, 7, 2, d1.0E308) = 1
            real(7, 0, 2) = 0xFFF0000000000000
            put(0, 7, 2, 0x7FF0000000000000) = 1
            real(7, 0, 2) = dNaN
            put(0, 7, 0, d-5.0) = 1
            put(0, 7, 1, 0x7FF0000000000000) = 1
            real(7, 0, 2) = 0x7FF0000000000000
            put(0, 7, 0, d5.0) = 1
            put(0, 7, 1, 0xFFF0000000000000) = 1
            put(0, 7, 2, d-5.0) = 1
            real(7, 0, 2) = 0xFFF0000000000000
            # by endless sums of what ends
            put(0, 7, 0, 0x7FEFFFFFFFFFFFFF) = 1
            put(0, 7, 1, 0x7FEFFFFFFFFFFFFF) = 1
            put(0, 7, 2, 0xFFF0000000000000) = 1
            real(7, 0, 2) = dNaN
            """);
        Script.run("the sum: of zeros, from 0.0 on", """
            row(0, 7, 2) = 1
            put(0, 7, 0, d-0.0) = 1
            put(0, 7, 1, d-0.0) = 1
            real(7, 0, 2) = d0.0
            put(0, 7, 0, d-1.0) = 1
            put(0, 7, 1, d1.0) = 1
            real(7, 0, 2) = d0.0
            # too little for a number of its own
            put(0, 7, 0, 0x8000000000000001) = 1
            put(0, 7, 1, d0.0) = 1
            real(7, 0, 2) = d-0.0
            put(0, 7, 0, 1) = 1
            real(7, 0, 2) = d0.0
            put(0, 7, 1, 2) = 1
            # one and a half: to the even one
            real(7, 0, 2) = 2
            """);
        Script.run("CELLS of floats are summed each as a double", """
            row(0, 6, 2) = 1
            put(0, 6, 0, f16777216) = 1
            put(0, 6, 1, f1.0) = 1
            real(6, 0, 2) = d8388608.5
            put(0, 6, 0, 0x7F7FFFFF) = 1
            put(0, 6, 1, 0x7F7FFFFF) = 1
            real(6, 0, 2) = d3.4028234663852886E38
            """);
    }

    /** A real of each exponent, and of both signs, goes through the sum and the quotient as the machine has it. */
    private static void everyExponent() {
        long seed = 12345;
        for (int exponent = 0; exponent < 2047; exponent++) {
            seed = seed * 6364136223846793005L + 1442695040888963407L;
            long bits = ((long) exponent << 52) | (seed >>> 12) | (exponent % 2 == 0 ? Long.MIN_VALUE : 0);
            double one = Double.longBitsToDouble(bits);
            GlassHouse house = new GlassHouse();
            house.row(0, 7, 3);
            house.put(0, 7, 0, bits);
            house.put(0, 7, 1, Double.doubleToLongBits(Double.NaN));
            house.put(0, 7, 2, Double.doubleToLongBits(Double.NaN));
            Script.due("promise 57, " + one, house.real(7, 0, 2), bits);
            Script.due("promise 57, least " + one, house.real(7, 0, 0), bits);
            house.put(0, 7, 1, Long.MIN_VALUE);
            house.put(0, 7, 2, 0);
            Script.due("promise 57, by three " + one, house.real(7, 0, 2), Double.doubleToLongBits((0.0 + one) / 3));
        }
        Script.due("promise 57, the greatest", oneAlone(0x7FEFFFFFFFFFFFFFL), 0x7FEFFFFFFFFFFFFFL);
        Script.due("promise 57, the least above 0", oneAlone(1), 1);
        Script.due("promise 57, the least whole one", oneAlone(0x0010000000000000L), 0x0010000000000000L);
        Script.due("promise 57, the one below it", oneAlone(0x000FFFFFFFFFFFFFL), 0x000FFFFFFFFFFFFFL);
        Script.due("promise 57, one", oneAlone(0x3FF0000000000000L), 0x3FF0000000000000L);
        Script.due("promise 57, below one", oneAlone(0x3FEFFFFFFFFFFFFFL), 0x3FEFFFFFFFFFFFFFL);
    }

    private static long oneAlone(long bits) {
        GlassHouse house = new GlassHouse();
        house.row(0, 7, 1);
        house.put(0, 7, 0, bits);
        return house.real(7, 0, 2);
    }

    private static void middles() {
        Script.run("the MIDDLE of them: of even many the lesser one", """
            row(0, 7, 4) = 1
            put(0, 7, 0, d4.0) = 1
            put(0, 7, 1, d3.0) = 1
            put(0, 7, 2, d2.0) = 1
            put(0, 7, 3, d1.0) = 1
            real(7, 0, 3) = d2.0
            put(0, 7, 3, dNaN) = 1
            real(7, 0, 3) = d3.0
            put(0, 7, 2, dNaN) = 1
            real(7, 0, 3) = d3.0
            put(0, 7, 1, dNaN) = 1
            real(7, 0, 3) = d4.0
            put(0, 7, 0, dNaN) = 1
            real(7, 0, 3) = dNaN
            # the CELLS stay in their order
            put(0, 7, 0, d9.0) = 1
            put(0, 7, 1, d8.0) = 1
            real(7, 0, 3) = d8.0
            get(0, 7, 0) = d9.0
            row(1, 7, 40) = 1
            put(1, 7, 39, d-1.0) = 1
            put(1, 7, 38, d1.0) = 1
            real(7, 1, 3) = d0.0
            real(7, 1, 0) = d-1.0
            real(7, 1, 1) = d1.0
            """);
    }

    private static void means() {
        Script.run("wholeMean: their sum, which does not wrap, by how many, cut; ZERO", """
            row(0, 4, 1) = 1
            wholeMean(0) = 1
            answer() = 0
            put(0, 4, 0, 2) = 1
            wholeMean(0) = 1
            answer() = 2
            put(0, 4, 0, -2147483648) = 1
            wholeMean(0) = 1
            answer() = -2147483648
            row(0, 4, 3) = 1
            put(0, 4, 0, 2147483647) = 1
            put(0, 4, 1, 2147483647) = 1
            put(0, 4, 2, 2147483647) = 1
            wholeMean(0) = 1
            answer() = 2147483647
            put(0, 4, 2, 2147483646) = 1
            wholeMean(0) = 1
            answer() = 2147483646
            put(0, 4, 0, -2147483648) = 1
            put(0, 4, 1, -2147483648) = 1
            put(0, 4, 2, -2147483648) = 1
            wholeMean(0) = 1
            answer() = -2147483648
            put(0, 4, 0, -1) = 1
            put(0, 4, 1, -1) = 1
            put(0, 4, 2, 0) = 1
            wholeMean(0) = 1
            answer() = 0
            put(0, 4, 2, -3) = 1
            wholeMean(0) = 1
            answer() = -1
            row(1, 4, 0) = 1
            wholeMean(1) = -16
            fault() = 6
            card(2) = 0
            wholeMean(2) = -14
            row(2, 3, 1) = 1
            wholeMean(2) = -14
            wholeMean(15) = -11
            wholeMean(-1) = BAD
            wholeMean(16) = BAD
            answer() = -1
            told(2) = 4
            """);
    }

    private static void contents() {
        Script.run("SALTS 0 .. 3 have three CONTENTS (0 .. 99; 0 at first); a WISH and WATER have three numbers (0 .. 999; 0)", """
            salt(0, 0, 99) = 0
            salt(0, 0, 100) = BAD
            salt(3, 2, 99) = 0
            salt(1, 0, 100) = BAD
            salt(1, 2, -1) = BAD
            salt(2, 1, 100) = BAD
            salt(2, 0, -1) = BAD
            salt(3, 2, 100) = BAD
            salt(3, 2, -1) = BAD
            salt(0, 0, -1) = BAD
            salt(4, 0, 999) = 0
            salt(4, 0, 1000) = BAD
            salt(4, 0, -1) = BAD
            salt(5, 2, 999) = 0
            salt(5, 2, 1000) = BAD
            salt(5, 2, -1) = BAD
            salt(-1, 0, 0) = BAD
            salt(6, 0, 0) = BAD
            salt(0, -1, 0) = BAD
            salt(0, 3, 0) = BAD
            salt(5, 3, 0) = BAD
            salt(2147483647, 0, 0) = BAD
            salt(0, 0, 2147483647) = BAD
            # what it was
            salt(0, 0, 0) = 99
            salt(3, 2, 1) = 99
            salt(3, 2, 0) = 1
            salt(4, 0, 0) = 999
            salt(5, 2, 0) = 999
            salt(0, 1, 0) = 0
            """);
    }

    private static void smallFeeds() {
        feed("nothing is there, nothing is wished", new int[12], new int[3], new int[3],
            1, 0, 0, 1, 0, 1, 0, 1, 0, 1);
        feed("nothing is wished: f0 is 0, by a column", new int[] {5, 0, 0, 0, 0, 0, 0, 0, 0, 0, 0, 0},
            new int[3], new int[3], 1, 1, 0, 1, 0, 1, 0, 1, 0, 1);
        feed("the WATER has what is wished", new int[] {5, 0, 0, 0, 3, 0, 0, 0, 2, 0, 0, 0},
            new int[] {999, 999, 999}, new int[] {999, 999, 999}, 1, 3, 0, 1, 0, 1, 0, 1, 0, 1);
        feed("1, if none is below 0, else 2: the first is below 0, the others are not",
            new int[] {1, 0, 0, 0, 1, 0, 0, 0, 1, 0, 0, 0}, new int[] {0, 3, 0}, new int[] {1, 0, 0},
            2, 3, -1, 1, 3, 1, 0, 1, 0, 1);
        feed("the last is below 0", new int[] {1, 0, 0, 0, 1, 0, 0, 0, 1, 0, 0, 0},
            new int[] {2, 3, 0}, new int[] {0, 0, 1}, 2, 3, 2, 1, 3, 1, -1, 1, 0, 1);
        feed("f by the last SALT alone", new int[] {0, 0, 0, 0, 0, 0, 0, 0, 0, 0, 7, 0},
            new int[] {0, 3, 0}, new int[3], 1, 1, 0, 1, 0, 1, 0, 1, 3, 7);
        feed("a cell of -1 divides", new int[] {1, 1, 0, 2, 1, 0, 0, 0, 0, 0, 0, 0},
            new int[] {5, 3, 0}, new int[3], 1, 2, 1, 1, 2, 1, 0, 1, 0, 1);
        feed("the first of the rows whose cell is not 0 changes places", new int[] {2, 4, 6, 1, 2, 5, 3, 5, 7, 0, 0, 0},
            new int[] {1, 2, 4}, new int[3], 1, 3, 1, 4, 1, 2, 0, 1, 0, 1);
        feed("NONE without SALTS: the first row that is wished", new int[12], new int[] {0, 7, 9}, new int[3],
            0, 0, 0, 1, 0);
        feed("NONE: only the last row", new int[12], new int[3], new int[] {0, 0, 1}, 0, 0, 0, 0, 1);
        feed("a WITNESS whose first is below 0 is turned", new int[] {2, 1, 0, 0, 0, 0, 0, 0, 0, 0, 0, 0},
            new int[] {1, 5, 0}, new int[3], 0, 1, 1, -2, 0);
        feed("a WITNESS by fractions", new int[] {6, 4, 9, 0, 0, 0, 0, 0, 0, 0, 0, 0},
            new int[] {6, 4, 1}, new int[3], 0, 1, 3, 0, -2);
        feed("a WITNESS: 1 is the greatest common divisor", new int[] {99, 66, 0, 0, 0, 0, 0, 0, 0, 0, 0, 0},
            new int[] {0, 1, 0}, new int[3], 0, 1, 2, -3, 0);
        feed("a WITNESS of the row that came down", new int[] {0, 3, 0, 2, 0, 0, 4, 6, 0, 8, 3, 0},
            new int[] {1, 1, 1}, new int[3], 0, 2, 0, 0, 1);
    }

    private static void worked() {
        Script.run("worked: 0: none such, BAD, before (of 1, too)", """
            worked(0, 0) = 0
            worked(1, 0) = 0
            worked(1, 3) = 0
            worked(2, 0) = 0
            worked(3, 0) = 0
            salt(0, 0, 2) = 0
            salt(4, 0, 3) = 0
            worked(1, 0) = 0
            work() = 1
            worked(0, 0) = 3
            worked(1, 0) = 2
            worked(0, -1) = 0
            worked(0, 4) = 0
            worked(1, -1) = 0
            worked(1, 4) = 0
            worked(2, -1) = 0
            worked(2, 3) = 0
            worked(-1, 0) = 0
            worked(4, 0) = 0
            worked(0, 2147483647) = 0
            # (any k)
            worked(3, -2147483648) = 1
            worked(3, 2147483647) = 1
            # 1 of 0
            worked(1, 3) = 1
            worked(0, 3) = 0
            told(2) = 0
            """);
        Script.run("worked: Of what was WORKED latest: behind a NONE there are no f, behind others no WITNESS", """
            salt(0, 0, 2) = 0
            salt(1, 1, 2) = 0
            salt(2, 2, 2) = 0
            salt(4, 0, 3) = 0
            salt(4, 1, 3) = 0
            salt(4, 2, 3) = 0
            work() = 1
            worked(0, 0) = 3
            worked(0, 1) = 3
            worked(0, 2) = 3
            salt(0, 0, 0) = 2
            worked(0, 0) = 3
            work() = 0
            worked(0, 0) = 0
            worked(1, 0) = 0
            worked(0, 1) = 0
            worked(1, 1) = 0
            worked(0, 2) = 0
            worked(1, 2) = 0
            worked(1, 3) = 0
            worked(2, 0) = 1
            worked(3, 0) = 2
            salt(0, 0, 1) = 0
            work() = 1
            worked(2, 0) = 0
            worked(3, 0) = 3
            worked(0, 0) = 3
            worked(1, 0) = 1
            """);
    }

    /** A feed: CONTENTS by SALTS; the answer, RANK, and then all f (upper and lower parts), or a WITNESS, are due. */
    private static void feed(String title, int[] salts, int[] wish, int[] water, long... due) {
        GlassHouse house = new GlassHouse();
        for (int k = 0; k < 12; k++) {
            house.salt(k / 3, k % 3, salts[k]);
        }
        for (int j = 0; j < 3; j++) {
            house.salt(4, j, wish[j]);
            house.salt(5, j, water[j]);
        }
        Script.due(title + ": work", house.work(), due[0]);
        Script.due(title + ": RANK", house.worked(3, 0), due[1]);
        boolean none = due[0] == 0;
        for (int i = 0; i < 4; i++) {
            Script.due(title + ": upper part " + i, house.worked(0, i), none ? 0 : due[2 + 2 * i]);
            Script.due(title + ": lower part " + i, house.worked(1, i), none ? 0 : due[3 + 2 * i]);
        }
        for (int j = 0; j < 3; j++) {
            Script.due(title + ": WITNESS " + j, house.worked(2, j), none ? due[2 + j] : 0);
        }
    }

    private static void feeds() {
        feed("a feed of RANK 3, answered 2", new int[] {0, 57, 75, 65, 78, 12, 18, 88, 76, 0, 0, 78},
            new int[] {638, 15, 851}, new int[] {0, 194, 0}, 2, 3, 238339, 1701, 2965, 63, -152531, 1134, 0, 1);
        feed("a feed of RANK 3, answered 2", new int[] {9, 0, 4, 1, 4, 8, 0, 0, 5, 8, 1, 1},
            new int[] {866, 297, 395}, new int[] {17, 0, 214}, 2, 3, 1033, 12, 297, 4, -2272, 15, 0, 1);
        feed("a feed of RANK 3, answered 2", new int[] {3, 1, 2, 2, 3, 0, 0, 3, 1, 1, 1, 0},
            new int[] {429, 659, 392}, new int[] {430, 0, 885}, 2, 3, -4279, 19, 6409, 19, -809, 19, 0, 1);
        feed("a feed of RANK 3, answered 2", new int[] {2, 50, 0, 73, 18, 33, 78, 37, 9, 74, 1, 47},
            new int[] {130, 982, 601}, new int[] {588, 395, 157}, 2, 3, 728723, 31244, 319235, 15622, -399843, 15622, 0, 1);
        feed("a feed of RANK 2, answered 0", new int[] {36, 9, 8, 12, 3, 3, 12, 3, 6, 8, 2, 7},
            new int[] {985, 261, 244}, new int[] {0, 0, 0}, 0, 2, 1, -4, 0);
        feed("a feed of RANK 0, answered 0", new int[] {0, 0, 0, 0, 0, 0, 0, 0, 0, 0, 0, 0},
            new int[] {141, 912, 461}, new int[] {0, 0, 0}, 0, 0, 1, 0, 0);
        feed("a feed of RANK 3, answered 2", new int[] {0, 2, 0, 0, 2, 0, 2, 1, 2, 3, 0, 0},
            new int[] {809, 30, 884}, new int[] {14, 0, 596}, 2, 3, -57, 1, 0, 1, 144, 1, 169, 1);
        feed("a feed of RANK 2, answered 2", new int[] {21, 1, 6, 18, 1, 5, 21, 1, 6, 39, 4, 9},
            new int[] {486, 66, 96}, new int[] {0, 0, 0}, 2, 2, -234, 1, 300, 1, 0, 1, 0, 1);
        feed("a feed of RANK 2, answered 0", new int[] {14, 7, 7, 18, 0, 9, 14, 3, 7, 8, 1, 4},
            new int[] {173, 771, 927}, new int[] {0, 0, 0}, 0, 2, 1, 0, -2);
        feed("a feed of RANK 2, answered 0", new int[] {19, 4, 7, 12, 3, 3, 23, 6, 5, 15, 3, 6},
            new int[] {359, 857, 917}, new int[] {0, 0, 0}, 0, 2, 1, -3, -1);
        feed("a feed of RANK 2, answered 1", new int[] {7, 7, 3, 1, 1, 2, 8, 8, 0, 5, 5, 1},
            new int[] {22, 22, 32}, new int[] {0, 0, 0}, 1, 2, 12, 11, 158, 11, 0, 1, 0, 1);
        feed("a feed of RANK 2, answered 0", new int[] {2, 1, 1, 6, 3, 4, 6, 3, 8, 12, 6, 5},
            new int[] {431, 786, 281}, new int[] {0, 0, 0}, 0, 2, 1, -2, 0);
        feed("a feed of RANK 2, answered 1", new int[] {4, 13, 1, 1, 6, 3, 9, 29, 2, 0, 2, 2},
            new int[] {50, 191, 41}, new int[] {0, 0, 0}, 1, 2, 109, 11, 114, 11, 0, 1, 0, 1);
        feed("a feed of RANK 2, answered 2", new int[] {6, 42, 8, 7, 48, 9, 2, 33, 9, 7, 21, 0},
            new int[] {67, 354, 51}, new int[] {0, 0, 0}, 2, 2, -123, 1, 115, 1, 0, 1, 0, 1);
        feed("a feed of RANK 2, answered 1", new int[] {48, 9, 3, 20, 3, 2, 56, 9, 5, 40, 7, 3},
            new int[] {232, 35, 23}, new int[] {0, 0, 0}, 1, 2, 1, 9, 34, 3, 0, 1, 0, 1);
        feed("a feed of RANK 3, answered 1", new int[] {0, 0, 1, 0, 2, 1, 3, 1, 1, 3, 0, 0},
            new int[] {147, 993, 577}, new int[] {0, 626, 0}, 1, 3, 369, 1, 159, 1, 49, 1, 0, 1);
        feed("a feed of RANK 3, answered 1", new int[] {2, 2, 3, 1, 0, 1, 2, 2, 0, 2, 3, 0},
            new int[] {763, 64, 785}, new int[] {0, 0, 0}, 1, 3, 86, 3, 699, 1, 10, 3, 0, 1);
        feed("a feed of RANK 3, answered 1", new int[] {0, 3, 0, 2, 0, 0, 0, 2, 1, 0, 0, 0},
            new int[] {390, 423, 125}, new int[] {0, 0, 83}, 1, 3, 113, 1, 195, 1, 42, 1, 0, 1);
        feed("a feed of RANK 1, answered 0", new int[] {0, 0, 0, 0, 0, 0, 0, 0, 6, 0, 0, 0},
            new int[] {863, 695, 571}, new int[] {0, 144, 883}, 0, 1, 0, 1, 0);
        feed("a feed of RANK 1, answered 0", new int[] {0, 2, 0, 0, 0, 0, 0, 0, 0, 0, 0, 0},
            new int[] {508, 867, 537}, new int[] {694, 0, 49}, 0, 1, 1, 0, 0);
        feed("the greatest CONTENTS", new int[] {99, 98, 97, 98, 99, 96, 97, 95, 99, 99, 99, 99},
            new int[] {999, 0, 999}, new int[] {0, 999, 0}, 2, 3, 999, 1, -999, 1, 0, 1, 0, 1);
        feed("the greatest CONTENTS, no whole numbers", new int[] {99, 97, 89, 83, 99, 79, 73, 71, 99, 97, 99, 98},
            new int[] {999, 0, 998}, new int[] {0, 999, 1}, 2, 3, 663170, 7329, -816196, 7329, 18419, 1047, 0, 1);
        feed("the greatest CONTENTS, NONE", new int[] {99, 98, 99, 97, 96, 97, 95, 99, 95, 89, 83, 89},
            new int[] {999, 0, 0}, new int[] {0, 999, 999}, 0, 2, 1, 0, -1);
        feed("the greatest CONTENTS, NONE, by fractions", new int[] {98, 49, 97, 96, 48, 91, 94, 47, 83, 92, 46, 99},
            new int[] {999, 0, 0}, new int[] {0, 999, 999}, 0, 2, 1, -2, 0);
        feed("a WITNESS by fractions, of a row that came down", new int[] {4, 16, 2, 2, 36, 8, 7, 42, 7, 9, 46, 7},
            new int[] {15, 12, 4}, new int[] {0, 0, 0}, 0, 2, 2, -1, 4);
        feed("a WITNESS by fractions, of a row that came down", new int[] {4, 16, 2, 7, 50, 9, 6, 48, 9, 6, 28, 4},
            new int[] {0, 10, 9}, new int[] {0, 0, 0}, 0, 2, 2, -1, 4);
        feed("rows that change places with fractions in them", new int[] {8, 4, 5, 12, 6, 8, 6, 3, 7, 8, 4, 1},
            new int[] {8, 4, 15}, new int[] {0, 0, 0}, 2, 2, -29, 1, 20, 1, 0, 1, 0, 1);
        feed("rows that change places with fractions in them", new int[] {14, 7, 1, 0, 0, 8, 18, 9, 3, 16, 8, 4},
            new int[] {6, 3, 4}, new int[] {0, 0, 0}, 1, 2, 3, 7, 25, 56, 0, 1, 0, 1);
        feed("rows that change places, by thirds and by halves", new int[] {6, 2, 3, 6, 2, 4, 1, 1, 1, 0, 0, 0},
            new int[] {1, 2, 3}, new int[] {0, 0, 0}, 2, 3, -3, 2, 5, 4, 5, 2, 0, 1);
    }
}

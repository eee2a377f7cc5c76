/** Promises 54 to 61: shares, quotients, reals, feeds. */
public final class FeedsTest {
    public static void main(String[] args) {
        shares();
        quotients();
        comparing();
        reals();
        means();
        feeds();
        witnesses();
        Script.end();
    }

    private static void shares() {
        Script.run("promise 54, shares", """
            row(0, 4, 3) = 1
            put(0, 4, 0, 1) = 1
            put(0, 4, 1, 1) = 1
            put(0, 4, 2, 1) = 1
            shares(0, 5, 1) = 1
            form(1) = 5
            size(1, 0) = 3
            get(1, 5, 0) = 2
            get(1, 5, 1) = 2
            get(1, 5, 2) = 1
            put(0, 4, 0, 1) = 1
            put(0, 4, 1, 2) = 1
            put(0, 4, 2, 4) = 1
            # 10 by 7: rests 3, 6, 5
            shares(0, 10, 1) = 1
            get(1, 5, 0) = 1
            get(1, 5, 1) = 3
            get(1, 5, 2) = 6
            shares(0, 0, 1) = 1
            get(1, 5, 2) = 0
            put(0, 4, 0, 2147483647) = 1
            put(0, 4, 1, 2147483647) = 1
            put(0, 4, 2, 0) = 1
            shares(0, 1000000000, 1) = 1
            get(1, 5, 0) = 500000000
            get(1, 5, 2) = 0
            shares(0, 999999999, 1) = 1
            get(1, 5, 0) = 500000000
            get(1, 5, 1) = 499999999
            told(1) = 6
            shares(0, 1000000001, 1) = BAD
            shares(0, -1, 1) = BAD
            shares(16, 1, 1) = BAD
            shares(0, 1, 16) = BAD
            shares(0, 1, -1) = BAD
            # cast and null ahead of NO
            shares(1, 1, 2) = -14
            shares(9, 1, 2) = -11
            put(0, 4, 2, -1) = 1
            shares(0, 1, 2) = NO
            row(3, 4, 2) = 1
            shares(3, 1, 2) = NO
            row(3, 4, 0) = 1
            shares(3, 1, 2) = NO
            form(2) = NONE
            told(2) = 2
            # into the bin itself
            put(0, 4, 2, 1) = 1
            shares(0, 1, 0) = 1
            form(0) = 5
            """);
        Script.run("promise 54, forty cells", """
            row(0, 4, 40) = 1
            put(0, 4, 39, 1) = 1
            shares(0, 7, 1) = 1
            get(1, 5, 39) = 7
            get(1, 5, 0) = 0
            size(1, 0) = 40
            """);
    }

    private static void quotients() {
        Script.run("promise 55, quotient", """
            quotient(4, 7, 2, 0) = 3
            quotient(4, -7, 2, 0) = -3
            quotient(4, -7, 2, 1) = -1
            quotient(4, 7, -2, 1) = 1
            quotient(4, -2147483648, -1, 0) = -2147483648
            quotient(4, -2147483648, -1, 1) = 0
            quotient(5, 0x8000000000000000, -1, 0) = 0x8000000000000000
            quotient(5, 0x8000000000000000, -1, 1) = 0
            quotient(5, 10000000000, 3, 0) = 3333333333
            quotient(5, 10000000000, 3, 1) = 1
            # ints of the lowest 32 bits
            quotient(4, 4294967303, 2, 0) = 3
            told(2) = 0
            quotient(4, 7, 4294967296, 0) = 0
            fault() = 6
            quotient(5, 7, 4294967296, 0) = 0
            told(2) = 1
            quotient(5, 7, 0, 1) = 0
            told(2) = 2
            quotient(3, 7, 0, 0) = 0
            quotient(6, 7, 0, 0) = 0
            quotient(4, 7, 0, 2) = 0
            quotient(4, 7, 0, -1) = 0
            told(2) = 2
            """);
    }

    private static void comparing() {
        Script.run("promise 56, compare", """
            row(0, 7, 4) = 1
            put(0, 7, 0, d1.5) = 1
            put(0, 7, 1, d-0.0) = 1
            put(0, 7, 2, dNaN) = 1
            put(0, 7, 3, 0xFFF0000000000000) = 1
            row(1, 7, 1) = 1
            compare(7, 0, 0, 1, 0) = 44
            compare(7, 1, 0, 0, 0) = 35
            compare(7, 0, 1, 1, 0) = 26
            compare(7, 1, 0, 0, 1) = 26
            compare(7, 0, 2, 0, 2) = 32
            compare(7, 0, 2, 0, 0) = 32
            compare(7, 0, 0, 0, 2) = 32
            compare(7, 0, 3, 0, 1) = 35
            compare(7, 0, 3, 0, 3) = 26
            row(2, 6, 3) = 1
            put(2, 6, 0, f-1.0) = 1
            put(2, 6, 1, 1) = 1
            put(2, 6, 2, f-0.0) = 1
            compare(6, 2, 0, 2, 1) = 35
            compare(6, 2, 1, 2, 2) = 44
            row(3, 6, 1) = 1
            compare(6, 2, 2, 3, 0) = 26
            # casts, then null and index of the first, then of the other
            compare(7, 9, 0, 2, 0) = -14
            compare(7, 2, 0, 9, 0) = -14
            compare(7, 9, 0, 0, 9) = -11
            compare(7, 0, 4, 9, 0) = -12
            compare(7, 0, 0, 9, 0) = -11
            compare(7, 0, 0, 0, 4) = -12
            compare(7, 0, -1, 0, 0) = -12
            compare(5, 0, 0, 0, 0) = BAD
            compare(8, 0, 0, 0, 0) = BAD
            compare(7, 16, 0, 0, 0) = BAD
            compare(7, 0, 0, -1, 0) = BAD
            """);
    }

    private static void reals() {
        Script.run("promise 57, real", """
            row(0, 7, 5) = 1
            real(7, 0, 0) = d0.0
            put(0, 7, 0, d3.0) = 1
            put(0, 7, 1, dNaN) = 1
            put(0, 7, 2, d-1.5) = 1
            put(0, 7, 3, d-0.0) = 1
            put(0, 7, 4, d0.0) = 1
            real(7, 0, 0) = d-1.5
            real(7, 0, 1) = d3.0
            real(7, 0, 2) = d0.375
            real(7, 0, 3) = d-0.0
            put(0, 7, 1, d8.0) = 1
            real(7, 0, 3) = d0.0
            real(7, 0, 2) = d1.9
            row(1, 7, 0) = 1
            real(7, 1, 0) = dNaN
            real(7, 1, 2) = dNaN
            row(1, 6, 1) = 1
            put(1, 6, 0, fNaN) = 1
            real(6, 1, 3) = dNaN
            put(1, 6, 0, f0.1) = 1
            real(6, 1, 0) = d0.10000000149011612
            real(6, 1, 2) = d0.10000000149011612
            put(1, 6, 0, 1) = 1
            real(6, 1, 1) = d1.401298464324817E-45
            put(1, 6, 0, 0x807FFFFF) = 1
            real(6, 1, 1) = d-1.1754942106924411E-38
            put(1, 6, 0, 0xFF800000) = 1
            real(6, 1, 1) = 0xFFF0000000000000
            put(1, 6, 0, f-0.0) = 1
            real(6, 1, 1) = d-0.0
            # the sum begins with 0.0
            real(6, 1, 2) = d0.0
            real(6, 0, 0) = 0
            fault() = 4
            real(7, 9, 0) = 0
            fault() = 1
            told(2) = 2
            real(5, 0, 0) = 0
            real(7, 16, 0) = 0
            real(7, 0, 4) = 0
            real(7, 0, -1) = 0
            told(2) = 2
            """);
        Script.run("promise 57, sums at the edges", """
            row(0, 7, 2) = 1
            put(0, 7, 0, 0x7FF0000000000000) = 1
            put(0, 7, 1, 0xFFF0000000000000) = 1
            real(7, 0, 2) = dNaN
            real(7, 0, 0) = 0xFFF0000000000000
            put(0, 7, 1, d-5.0) = 1
            real(7, 0, 2) = 0x7FF0000000000000
            put(0, 7, 0, 0x7FEFFFFFFFFFFFFF) = 1
            put(0, 7, 1, 0x7FEFFFFFFFFFFFFF) = 1
            real(7, 0, 2) = 0x7FF0000000000000
            put(0, 7, 0, 0xFFEFFFFFFFFFFFFF) = 1
            put(0, 7, 1, 0xFFEFFFFFFFFFFFFF) = 1
            real(7, 0, 2) = 0xFFF0000000000000
            put(0, 7, 0, 0x8000000000000001) = 1
            put(0, 7, 1, 0) = 1
            # half of the least one, to even
            real(7, 0, 2) = 0x8000000000000000
            put(0, 7, 0, 3) = 1
            real(7, 0, 2) = 2
            put(0, 7, 0, 0x0010000000000000) = 1
            real(7, 0, 2) = 0x0008000000000000
            put(0, 7, 0, 0x0020000000000000) = 1
            real(7, 0, 2) = 0x0010000000000000
            put(0, 7, 0, 0x7FEFFFFFFFFFFFFF) = 1
            real(7, 0, 2) = 0x7FDFFFFFFFFFFFFF
            """);
    }

    private static void means() {
        Script.run("promise 58, wholeMean", """
            row(0, 4, 2) = 1
            put(0, 4, 0, 2147483647) = 1
            put(0, 4, 1, 2147483647) = 1
            wholeMean(0) = 1
            answer() = 2147483647
            put(0, 4, 0, -2) = 1
            put(0, 4, 1, -5) = 1
            wholeMean(0) = 1
            answer() = -3
            row(1, 4, 0) = 1
            wholeMean(1) = -16
            row(1, 5, 1) = 1
            wholeMean(1) = -14
            wholeMean(9) = -11
            wholeMean(16) = BAD
            wholeMean(-1) = BAD
            answer() = -3
            trace(0) = NONE
            """);
    }

    private static void feeds() {
        Script.run("promises 59 to 61, feeds", """
            salt(0, 0, 99) = 0
            salt(0, 0, 2) = 99
            salt(0, 0, 100) = BAD
            salt(0, 0, -1) = BAD
            salt(0, 3, 1) = BAD
            salt(0, -1, 1) = BAD
            salt(6, 0, 1) = BAD
            salt(-1, 0, 1) = BAD
            salt(4, 0, 999) = 0
            salt(5, 0, 1000) = BAD
            salt(4, 0, 7) = 999
            salt(5, 0, 2) = 0
            work() = 1
            worked(3, 77) = 1
            worked(0, 0) = 5
            worked(1, 0) = 2
            worked(0, 1) = 0
            worked(1, 1) = 1
            worked(0, 4) = 0
            worked(1, 4) = 0
            worked(1, -1) = 0
            worked(4, 0) = 0
            worked(-1, 0) = 0
            worked(2, 0) = 0
            # what was worked stays as it is
            salt(4, 0, 8) = 7
            worked(0, 0) = 5
            salt(5, 0, 9) = 2
            work() = 2
            worked(0, 0) = -1
            worked(1, 0) = 2
            """);
        Script.run("promise 60, three rows, in the order of the salts", """
            salt(0, 1, 2) = 0
            salt(1, 0, 3) = 0
            salt(1, 1, 1) = 0
            salt(2, 0, 6) = 0
            salt(2, 1, 2) = 0
            salt(3, 2, 7) = 0
            salt(4, 0, 1) = 0
            salt(4, 1, 1) = 0
            salt(4, 2, 3) = 0
            # f0 by row 1, f1 by row 0, f2 takes no row, f3 by row 2
            work() = 1
            worked(3, 0) = 3
            worked(0, 0) = 1
            worked(1, 0) = 3
            worked(0, 1) = 1
            worked(1, 1) = 3
            worked(0, 2) = 0
            worked(1, 2) = 1
            worked(0, 3) = 3
            worked(1, 3) = 7
            """);
        Script.run("promise 60, nothing wished", """
            work() = 1
            worked(3, 0) = 0
            worked(0, 3) = 0
            worked(1, 3) = 1
            """);
    }

    private static void witnesses() {
        Script.run("promise 61, a witness", """
            salt(0, 0, 2) = 0
            salt(0, 1, 4) = 0
            salt(4, 0, 1) = 0
            salt(4, 1, 3) = 0
            # row 1 less twice row 0: of 2 and -1 the first is above 0
            work() = 0
            worked(3, 0) = 1
            worked(2, 0) = 2
            worked(2, 1) = -1
            worked(2, 2) = 0
            worked(2, 3) = 0
            worked(2, -1) = 0
            worked(0, 0) = 0
            worked(1, 0) = 0
            salt(4, 1, 2) = 3
            work() = 1
            worked(2, 0) = 0
            worked(0, 0) = 1
            worked(1, 0) = 2
            """);
        Script.run("promise 61, the first row that has none", """
            salt(4, 1, 5) = 0
            salt(4, 2, 6) = 0
            work() = 0
            worked(3, 0) = 0
            worked(2, 0) = 0
            worked(2, 1) = 1
            worked(2, 2) = 0
            """);
        Script.run("promise 61, of three rows", """
            salt(0, 0, 6) = 0
            salt(0, 1, 4) = 0
            salt(0, 2, 10) = 0
            salt(1, 0, 3) = 0
            salt(1, 1, 5) = 0
            salt(1, 2, 8) = 0
            salt(5, 2, 1) = 0
            # row 2 is row 0 and row 1
            work() = 0
            worked(3, 0) = 2
            worked(2, 0) = 1
            worked(2, 1) = 1
            worked(2, 2) = -1
            """);
    }
}

/** Promises 62 to 67: pests, days, sprays. */
public final class PestsTest {
    public static void main(String[] args) {
        Script.run("promises 62, 63 and 66, count, parts, pest", """
            count(0, 0, 1000000000) = 1
            pest(0, 0) = 1000000000
            count(0, 0, 0) = 1
            pest(0, 0) = 0
            count(0, 0, 1000000000) = 1
            pest(1, 0) = 0
            count(0, 0, 1000000001) = BAD
            count(0, 0, -1) = BAD
            count(2, 0, 1) = BAD
            count(-1, 0, 1) = BAD
            count(0, 4, 1) = BAD
            count(0, -1, 1) = BAD
            pest(2, 0) = BAD
            pest(-1, 0) = BAD
            pest(0, 4) = BAD
            pest(0, -1) = BAD
            parts(0, 0, 1000, 1000, 1000) = 1
            parts(0, 0, 1001, 0, 0) = BAD
            parts(0, 0, 0, 1001, 0) = BAD
            parts(0, 0, 0, 0, 1001) = BAD
            parts(0, 0, -1, 0, 0) = BAD
            parts(2, 0, 0, 0, 0) = BAD
            parts(0, 4, 0, 0, 0) = BAD
            day(1) = 1
            pest(0, 0) = 500000000
            pest(0, 1) = 500000000
            """);
        Script.run("promise 64, a day", """
            count(0, 0, 10) = 1
            count(0, 1, 7) = 1
            count(0, 2, 3) = 1
            count(0, 3, 9) = 1
            parts(0, 0, 500, 1000, 50) = 1
            parts(0, 1, 1000, 1000, 50) = 1
            parts(0, 2, 700, 600, 50) = 1
            parts(0, 3, 1000, 400, 250) = 1
            day(1) = 1
            # of 10: 2.5, 5, 2.5: what is left goes to the lesser place
            # of 7: 3.5, 3.5, 0; of 3: 1.05, 0.9, 1.05; of 9: 4.5, 1.8, 2.7; young: 22
            pest(0, 0) = 27
            pest(0, 1) = 6
            pest(0, 2) = 5
            pest(0, 3) = 3
            day(0) = BAD
            day(51) = BAD
            day(-1) = BAD
            told(7) = 1
            """);
        Script.run("promise 64, without parts all are gone", """
            count(1, 2, 100) = 1
            day(1) = 1
            pest(1, 2) = 0
            pest(1, 3) = 0
            """);
        Script.run("promise 64, young alone, and what is above is cut", """
            count(0, 3, 1000000000) = 1
            parts(0, 3, 0, 1000, 1000) = 1
            day(1) = 1
            pest(0, 0) = 1000000000
            pest(0, 3) = 500000000
            count(0, 3, 7) = 1
            parts(0, 3, 0, 1000, 15) = 1
            parts(0, 0, 0, 0, 1000) = 1
            day(1) = 2
            # 7 times 15 by 100; the young of other stages count for nothing
            pest(0, 0) = 1
            """);
        Script.run("promises 65 and 67, spray and wait1", """
            count(0, 0, 7) = 1
            count(0, 3, 1000000000) = 1
            count(1, 0, 8) = 1
            wait1() = 0
            spray(0) = 1
            pest(0, 0) = 1
            pest(0, 3) = 250000000
            pest(1, 0) = 8
            wait1() = 7
            day(3) = 3
            wait1() = 4
            spray(1) = 1
            wait1() = 7
            day(6) = 9
            wait1() = 1
            day(1) = 10
            wait1() = 0
            day(1) = 11
            wait1() = 0
            spray(2) = BAD
            spray(-1) = BAD
            wait1() = 0
            """);
        Script.run("promise 64, ten thousand days", """
            199 * day(50)
            day(49) = 9999
            day(2) = FULL
            day(51) = BAD
            day(1) = 10000
            day(1) = FULL
            told(7) = 10000
            """);
        Script.end();
    }
}

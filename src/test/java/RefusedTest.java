import java.util.ArrayList;
import java.util.List;

/**
 * What is refused changes nothing, and what has a FAULT changes nothing but as told: of two objects with the same calls
 * behind them one gets the refused call, too; then both are asked all that they tell, and must answer alike.
 */
public final class RefusedTest {
    /** All that can be told, in parts, so that no object gets more than 512 calls. */
    private static final int PARTS = 11;

    /** An object with something of each kind in it; its BINS 14 and 15 hold NOTHING. */
    private static final String READY = """
        row(0, 4, 3)
        put(0, 4, 0, 7)
        row(1, 5, 2)
        put(1, 5, 1, 99)
        grid(2, 9, 2, 2, false)
        setBed(2, 9, 1, 1, 5)
        storeys(3, 2)
        set(3, 0, 2)
        tray(4, 12, 3)
        plant(5, 1, 4, 3, 0, 0)
        set(4, 1, 5)
        plant(6, 2, 1, 2, 5, 14)
        plant(6, 2, 1, 2, 6, 5)
        plant(6, 2, 1, 2, 6, 5)
        plant(6, 2, 1, 2, 5, 6)
        plant(7, 3, 5, 0, 0, 0)
        set(4, 2, 7)
        card(8)
        card(9)
        lead(8, 0, 9)
        lead(8, 1, 7)
        setField(8, 4, 77)
        row(10, 7, 2)
        put(10, 7, 0, d1.5)
        row(11, 4, 0)
        grid(12, 9, 2, 1, true)
        tray(13, 13, 2)
        ask(5, 1)
        shift(0, 0, 0, 1, 2)
        put(0, 4, 2, -1)
        step(0, 16, 0, 0, 0)
        step(0, 11, 1, 0, 0)
        step(0, 9, 0, 0, 0)
        step(0, 0, 0, 0, 0)
        step(0, 0, 0, 0, 0)
        step(0, 17, 7, 0, 0)
        step(0, 13, 2, 3, 4)
        step(0, 2, 0, 0, 0)
        step(0, 0, 0, 0, 0)
        step(0, 0, 0, 0, 0)
        step(0, 18, 0, 0, 0)
        step(0, 0, 0, 0, 0)
        40 * step(1, 1, 1, 2, 0)
        step(2, 11, 0, 0, 0)
        step(3, 3, 0, 0, 8)
        step(3, 1, 0, 6, 0)
        step(3, 5, 8, 1, 0)
        step(3, 8, 5, 0, 0)
        setStock(2, 1234567890123)
        run(0)
        line(0, 10, 100)
        line(0, 30, 8000)
        rest(0, 1)
        8 * line(2, 0, 0)
        line(2, 1, 1)
        line(2, 2, 1)
        line(2, 3, 1)
        line(2, 4, 1)
        line(2, 5, 1)
        line(2, 6, 1)
        line(2, 7, 1)
        value(0, 15)
        read(0, d20.0)
        read(3, d20.5)
        read(6, d29.0)
        read(1, d12.5)
        part(d1.5)
        weather(0, 300)
        weather(4, 1)
        mark(0, 0, 20000)
        mark(0, 1, 18000)
        mark(0, 2, 18000)
        mark(0, 3, 18000)
        mark(0, 4, 18000)
        mark(0, 700, 18000)
        mark(1, 9, 15000)
        minute(2)
        salt(0, 0, 2)
        salt(1, 1, 3)
        salt(4, 0, 5)
        salt(5, 1, 1)
        work()
        count(0, 0, 1000)
        count(0, 3, 500)
        parts(0, 0, 500, 700, 0)
        parts(0, 3, 100, 900, 300)
        spray(0)
        day(2)
        write(0)
        write(1)
        damage(1, 40, 3)
        write(1)
        """;

    private static final int[] AS_LANES = {4, 5, 7};

    private static int wrong;
    private static int refusals;

    public static void main(String[] args) {
        badOfRows();
        badOfPlants();
        badOfActs();
        badOfHouses();
        badOfFeeds();
        badOfBooks();
        noAndFull();
        dark();
        fullOfThings();
        faultsOfRows();
        faultsOfPlants();
        faultsOfRuns();
        faultsOfFeeds();
        Script.end();
        System.out.println(wrong == 0 ? refusals + " refused calls changed nothing" : wrong + " changed something");
        if (wrong != 0) {
            System.exit(1);
        }
    }

    private static void lines(String text, List<String> into) {
        for (String line : text.split("\n")) {
            if (!line.isBlank()) {
                into.add(line.strip());
            }
        }
    }

    private static GlassHouse made(String calls) {
        GlassHouse house = new GlassHouse();
        List<String> all = new ArrayList<>();
        lines(calls, all);
        for (String call : all) {
            int star = call.indexOf(" * ");
            int times = star < 0 ? 1 : Integer.parseInt(call.substring(0, star));
            for (int k = 0; k < times; k++) {
                Script.ask(house, star < 0 ? call : call.substring(star + 3));
            }
        }
        return house;
    }

    /** Each line is a refused call with its answer; a FAULT's is told by the answer, or behind a bar. */
    private static void refused(String ready, String calls) {
        List<String> all = new ArrayList<>();
        lines(calls, all);
        for (String line : all) {
            int equals = line.indexOf(") = ");
            String call = line.substring(0, equals + 1);
            String[] due = line.substring(equals + 4).split("\\|");
            long answer = Script.number(due[0].strip());
            int fault = due.length > 1 ? Integer.parseInt(due[1].strip()) : answer <= -11 && answer >= -18 ? (int) -answer - 10 : 0;
            changesNothing(ready, call, answer, fault);
        }
    }

    private static void changesNothing(String ready, String call, long answer, int fault) {
        refusals++;
        for (int part = 0; part < PARTS; part++) {
            GlassHouse with = made(ready);
            GlassHouse without = made(ready);
            Script.due(call, Script.ask(with, call), answer);
            Script.due(call + ": FAULTS ever", with.told(2), without.told(2) + (fault == 0 ? 0 : 1));
            Script.due(call + ": the FAULT", with.fault(), fault == 0 ? without.fault() : fault);
            List<String> one = new ArrayList<>();
            List<String> two = new ArrayList<>();
            observe(with, part, one, call);
            observe(without, part, two, call);
            for (int k = 0; k < one.size() && k < two.size(); k++) {
                if (!one.get(k).equals(two.get(k))) {
                    wrong++;
                    System.out.println(call + " changed: " + one.get(k) + ", was " + two.get(k));
                    break;
                }
            }
        }
    }

    private static void note(List<String> into, String what, long told) {
        into.add(what + " " + told);
    }

    private static void observe(GlassHouse house, int part, List<String> into, String call) {
        switch (part) {
            case 0:
                observeNumbers(house, into, call);
                break;
            case 1:
                observeBins(house, into);
                break;
            case 2:
                observePlaces(house, into);
                break;
            case 3:
                observeHouses(house, into);
                break;
            case 4:
            case 5:
            case 6:
            case 7:
            case 8:
                for (int at = (part - 4) * 256; at < (part - 3) * 256; at++) {
                    note(into, "octet " + at, house.octet(at / 64, at % 64));
                }
                break;
            case 9:
                observeWhatComes(house, into);
                break;
            default:
                observeWhatIsMade(house, into);
                break;
        }
    }

    /** What an ask() or a shift() told is as told of these, also when it has a FAULT. */
    private static void observeNumbers(GlassHouse house, List<String> into, String call) {
        for (int what = 0; what <= 10; what++) {
            if (what != 2) {
                note(into, "told " + what, house.told(what));
            }
        }
        boolean aRun = call.startsWith("run");
        for (int what = 0; what <= 8 && !aRun; what++) {
            note(into, "ran " + what, house.ran(what));
        }
        note(into, "answer", house.answer());
        if (!call.startsWith("shift") || call.startsWith("shift(16")) {
            note(into, "came", house.came());
        }
        for (int i = 0; i < 5 && !call.startsWith("ask") && !aRun; i++) {
            note(into, "trace " + i, house.trace(i));
        }
        for (int k = 0; k < 6; k++) {
            note(into, "stock " + k, house.stock(k));
            note(into, "valve " + k, house.valve(k / 2, k % 2));
            note(into, "laid " + k, house.laid(k));
        }
        for (int k = 0; k < 16; k++) {
            note(into, "worked " + k, house.worked(k / 4, k % 4));
            note(into, "page " + k, house.page(k / 5, k % 5));
            note(into, "page " + k, house.page(k / 5, 10 + k % 5));
        }
        for (int k = 0; k < 8; k++) {
            note(into, "pest " + k, house.pest(k / 4, k % 4));
        }
        note(into, "wait1", house.wait1());
        for (int plan = 0; plan < 4; plan++) {
            note(into, "formed " + plan, house.formed(plan));
        }
    }

    private static void observeBins(GlassHouse house, List<String> into) {
        for (int bin = 0; bin < 16; bin++) {
            int form = house.form(bin);
            note(into, "form " + bin, form);
            for (int other = 0; other < bin; other++) {
                note(into, "alike " + bin + " " + other, house.alike(bin, other));
            }
            if (form < 0 || form > 15) {
                continue;
            }
            int size = house.size(bin, 0);
            note(into, "size " + bin, size);
            note(into, "nothing in " + bin, house.size(bin, 1));
            for (int i = 0; i < size && form < 8; i++) {
                note(into, "get " + bin + " " + i, house.get(bin, form, i));
            }
            for (int lane : AS_LANES) {
                note(into, "is " + bin, house.is(bin, lane));
            }
        }
    }

    private static void observePlaces(GlassHouse house, List<String> into) {
        for (int bin = 0; bin < 14; bin++) {
            int form = house.form(bin);
            if (form >= 8 && form <= 15) {
                int size = house.size(bin, 0);
                for (int i = 0; i < size; i++) {
                    house.lift(15, bin, i);
                    note(into, "form of " + bin + " " + i, house.form(15));
                    for (int other = 0; other < 14; other++) {
                        note(into, "alike to " + bin + " " + i, house.alike(15, other));
                    }
                }
            } else if (form == 16) {
                for (int what = 0; what < 8; what++) {
                    note(into, "ask " + bin, house.ask(bin, what));
                    note(into, "answer", house.answer());
                }
            } else if (form == 17) {
                for (int lane = 0; lane < 8; lane++) {
                    note(into, "field " + bin + " " + lane, house.field(bin, lane));
                }
                for (int what = 0; what < 3; what++) {
                    note(into, "led " + bin + " " + what, house.led(bin, what));
                    note(into, "follow " + bin, house.follow(15, bin, what % 2));
                    note(into, "NUMBER", house.led(15, 2));
                    note(into, "KIND", house.ask(15, 6));
                }
            }
        }
    }

    private static void observeHouses(GlassHouse house, List<String> into) {
        for (int round = 0; round < 2; round++) {
            for (int probe = 0; probe < 9; probe++) {
                for (int what = 0; what < 5; what++) {
                    note(into, "probe " + probe + " " + what, house.probe(probe, what));
                }
            }
            for (int k = 0; k < 3; k++) {
                note(into, "voted " + k, house.voted(k));
                for (int what = 0; what <= 10; what++) {
                    note(into, "air " + k + " " + what, house.air(k, what));
                }
                for (int minute = 0; minute < 1440; minute += 103) {
                    note(into, "wish " + k + " " + minute, house.wish(k, minute));
                }
            }
            note(into, "minute", house.minute(3));
        }
        for (int what = 0; what < 5; what++) {
            note(into, "weather " + what, house.weather(what, 0));
        }
        for (int k = 0; k < 3; k++) {
            note(into, "unmark " + k, house.unmark(k));
        }
    }

    private static void observeWhatComes(GlassHouse house, List<String> into) {
        for (int k = 0; k < 18; k++) {
            note(into, "salt " + k, house.salt(k / 3, k % 3, 0));
        }
        for (int table = 0; table < 3; table++) {
            for (int x = -1; x < 41; x += 7) {
                note(into, "value " + table + " " + x, house.value(table, x));
            }
            note(into, "line " + table, house.line(table, 1000000, 0));
        }
        for (int round = 0; round < 8; round++) {
            note(into, "day", house.day(1));
            note(into, "wait1", house.wait1());
            for (int k = 0; k < 8; k++) {
                note(into, "pest " + k, house.pest(k / 4, k % 4));
            }
        }
        house.row(15, 1, 1);
        for (int round = 0; round < 4; round++) {
            note(into, "write", house.write(15));
            note(into, "DARK", house.told(5));
            note(into, "next PAGE", house.told(4));
        }
        note(into, "open1", house.open1());
        note(into, "latest", house.told(3));
    }

    private static void observeWhatIsMade(GlassHouse house, List<String> into) {
        for (int plan = 3; plan >= 0; plan--) {
            note(into, "run " + plan, house.run(plan));
            for (int what = 0; what <= 8; what++) {
                note(into, "ran " + what, house.ran(what));
            }
            for (int k = 0; k < 6; k++) {
                note(into, "stock " + k, house.stock(k));
            }
            note(into, "step", house.step(plan, 1, 0, 0, 0));
            note(into, "drop", house.drop(plan));
        }
        note(into, "card", house.card(15));
        note(into, "plant", house.plant(15, 0, 1, 1, 0, 0));
        note(into, "THINGS", house.told(1));
        for (int table = 0; table < 3; table++) {
            note(into, "rest", house.rest(table, 1));
            note(into, "value", house.value(table, 0));
        }
        for (int probe = 0; probe < 9; probe++) {
            note(into, "minute", house.minute(1));
            note(into, "probe", house.probe(probe, 3));
        }
    }

    private static void badOfRows() {
        refused(READY, """
            row(-1, 4, 1) = BAD
            row(16, 4, 1) = BAD
            row(0, -1, 1) = BAD
            row(0, 8, 1) = BAD
            row(0, 4, 41) = BAD
            grid(-1, 9, 1, 1, false) = BAD
            grid(16, 9, 1, 1, false) = BAD
            grid(0, 7, 1, 1, false) = BAD
            grid(0, 11, 1, 1, false) = BAD
            grid(0, 9, 11, 1, false) = BAD
            grid(0, 9, 1, 41, false) = BAD
            grid(0, 9, 1, 41, true) = BAD
            storeys(-1, 1) = BAD
            storeys(16, 1) = BAD
            storeys(0, 5) = BAD
            share(-1, 0) = BAD
            share(16, 0) = BAD
            share(0, -2) = BAD
            share(0, 16) = BAD
            form(16) = BAD
            is(16, 0) = BAD
            is(0, 18) = BAD
            get(16, 4, 0) = 0
            get(0, 8, 0) = 0
            put(-1, 4, 0, 1) = BAD
            put(16, 4, 0, 1) = BAD
            put(0, -1, 0, 1) = BAD
            put(0, 8, 0, 1) = BAD
            bed(2, 11, 0, 0) = 0
            setBed(16, 9, 0, 0, 1) = BAD
            setBed(2, 11, 0, 0, 1) = BAD
            setBed(2, 7, 0, 0, 1) = BAD
            countUp(16, 0, 0, 0, true) = 0
            countUp(-1, 0, 0, 0, false) = 0
            set(16, 0, 0) = BAD
            set(2, 0, 16) = BAD
            set(2, 0, -1) = BAD
            lift(16, 2, 0) = BAD
            lift(0, 16, 0) = BAD
            liftAs(16, 2, 0, 4) = BAD
            liftAs(0, 16, 0, 4) = BAD
            liftAs(0, 2, 0, 18) = BAD
            liftAs(0, 2, 0, -1) = BAD
            shift(16, 0, 0, 0, 1) = BAD
            copy(16, 0, true) = BAD
            copy(0, 16, true) = BAD
            alike(0, 16) = BAD
            size(0, 2) = BAD
            size(16, 0) = BAD
            """);
    }

    private static void badOfPlants() {
        refused(READY, """
            plant(16, 0, 1, 1, 0, 0) = BAD
            plant(0, -1, 1, 1, 0, 0) = BAD
            plant(0, 6, 1, 1, 0, 0) = BAD
            plant(0, 2, 1, 1, 16, 5) = BAD
            plant(0, 2, 1, 1, 5, -1) = BAD
            tray(16, 12, 1) = BAD
            tray(0, 11, 1) = BAD
            tray(0, 16, 1) = BAD
            tray(0, 12, 9) = BAD
            trace(-1) = NONE
            trace(128) = NONE
            card(-1) = BAD
            card(16) = BAD
            field(16, 4) = 0
            field(8, 8) = 0
            setField(16, 4, 1) = BAD
            setField(8, 8, 1) = BAD
            setField(8, -1, 1) = BAD
            lead(16, 0, 9) = BAD
            lead(8, 2, 9) = BAD
            lead(8, -1, 9) = BAD
            lead(8, 0, 16) = BAD
            follow(16, 8, 0) = BAD
            follow(0, 16, 0) = BAD
            follow(0, 8, 2) = BAD
            follow(0, 8, -1) = BAD
            led(16, 0) = BAD
            led(8, 3) = BAD
            """);
        // An ask() that is BAD leaves THE TRACE, too.
        GlassHouse house = made(READY);
        Script.due("ask that is BAD", house.ask(16, 0), GlassHouse.BAD);
        Script.due("ask that is BAD", house.ask(5, 8), GlassHouse.BAD);
        Script.due("ask that is BAD", house.ask(5, -1), GlassHouse.BAD);
        Script.due("the TRACE", house.trace(0), 11);
        Script.due("the answer", house.answer(), 28);
        // A shift() that is BAD leaves what came.
        Script.due("shift that is BAD", house.shift(0, 0, 16, 0, 1), GlassHouse.BAD);
        Script.due("what came", house.came(), 2);
    }

    private static void badOfActs() {
        refused(READY, """
            step(-1, 1, 0, 0, 0) = BAD
            step(4, 1, 0, 0, 0) = BAD
            step(0, 21, 0, 0, 0) = BAD
            step(0, -1, 0, 0, 0) = BAD
            drop(-1) = BAD
            drop(4) = BAD
            formed(4) = 0
            ran(9) = BAD
            stock(6) = 0
            setStock(-1, 1) = BAD
            setStock(6, 1) = BAD
            valve(3, 0) = 0
            line(-1, 50, 0) = BAD
            line(3, 50, 0) = BAD
            line(0, 30, 0) = BAD
            line(0, 1000001, 0) = BAD
            line(0, 50, 1000001) = BAD
            line(0, 50, -1000001) = BAD
            line(1, -1000001, 0) = BAD
            rest(3, 0) = BAD
            rest(2, 3) = BAD
            rest(2, -2) = BAD
            value(3, 0) = 0
            value(-1, 0) = 0
            """);
        GlassHouse house = made(READY);
        int was = house.ran(1);
        Script.due("run that is BAD", house.run(4), GlassHouse.BAD);
        Script.due("run that is BAD", house.run(-1), GlassHouse.BAD);
        Script.due("run that is NO", house.run(2), GlassHouse.NO);
        Script.due("STEPS of the latest RUN", house.ran(1), was);
        Script.due("its FAULT", house.ran(3), 7);
    }

    private static void badOfHouses() {
        refused(READY, """
            read(-1, 5) = BAD
            read(9, 5) = BAD
            part(dNaN) = BAD
            part(d-1.0) = BAD
            probe(9, 0) = BAD
            probe(0, 5) = BAD
            voted(3) = 0
            weather(5, 0) = -100000
            weather(-1, 0) = -100000
            weather(0, 1001) = -100000
            weather(1, -40001) = -100000
            weather(2, 40001) = -100000
            weather(3, 2) = -100000
            weather(4, -1) = -100000
            mark(3, 0, 0) = BAD
            mark(1, 9, 0) = BAD
            mark(1, 1440, 0) = BAD
            mark(1, 10, 60001) = BAD
            mark(1, 10, -50001) = BAD
            unmark(-1) = BAD
            unmark(3) = BAD
            wish(0, 1440) = -100000
            minute(0) = BAD
            minute(101) = BAD
            air(3, 0) = 0
            air(0, 11) = 0
            """);
    }

    private static void badOfFeeds() {
        refused(READY, """
            shares(16, 5, 15) = BAD
            shares(0, -1, 15) = BAD
            shares(0, 1000000001, 15) = BAD
            shares(0, 5, 16) = BAD
            quotient(3, 5, 0, 0) = 0
            quotient(4, 5, 0, 2) = 0
            compare(5, 10, 0, 10, 0) = BAD
            compare(7, 16, 0, 10, 0) = BAD
            real(5, 10, 0) = 0
            real(7, 16, 0) = 0
            real(7, 10, 4) = 0
            wholeMean(16) = BAD
            salt(6, 0, 1) = BAD
            salt(0, 3, 1) = BAD
            salt(0, 0, 100) = BAD
            salt(4, 0, 1000) = BAD
            salt(0, 0, -1) = BAD
            worked(4, 0) = 0
            worked(0, 4) = 0
            count(2, 0, 1) = BAD
            count(0, 4, 1) = BAD
            count(0, 0, -1) = BAD
            count(0, 0, 1000000001) = BAD
            parts(2, 0, 1, 1, 1) = BAD
            parts(0, 4, 1, 1, 1) = BAD
            parts(0, 0, 1001, 1, 1) = BAD
            parts(0, 0, 1, 1001, 1) = BAD
            parts(0, 3, 1, 1, 1001) = BAD
            day(0) = BAD
            day(51) = BAD
            spray(-1) = BAD
            spray(2) = BAD
            pest(2, 0) = BAD
            """);
    }

    private static void badOfBooks() {
        refused(READY, """
            write(-1) = BAD
            write(16) = BAD
            power(-2) = BAD
            power(201) = BAD
            page(9, 0) = NONE
            octet(20, 0) = BAD
            damage(20, 0, 1) = BAD
            damage(0, 64, 1) = BAD
            damage(0, -1, 1) = BAD
            damage(0, 0, 256) = BAD
            damage(0, 0, -1) = BAD
            told(11) = BAD
            """);
        refused(READY + "power(70)\n", """
            power(-2) = BAD
            power(201) = BAD
            write(16) = BAD
            write(15) = -11
            write(10) = -14
            """);
    }

    private static void noAndFull() {
        refused(READY, """
            run(2) = NO
            rest(0, 2) = NO
            rest(0, NONE) = NO
            wish(2, 0) = -100001
            shares(11, 5, 15) = NO
            shares(0, 5, 15) = NO
            shares(0, 5, 0) = NO
            step(1, 1, 0, 0, 0) = FULL
            line(2, 50, 0) = FULL
            mark(0, 1000, 0) = FULL
            plant(15, 2, 0, 0, 6, 5) = FULL
            plant(6, 2, 0, 0, 5, 6) = FULL
            """);
        refused(READY + "row(15, 4, 7)\npower(70)\n", "write(15) = FULL");
        refused(READY + "17 * write(1)\npower(0)\n", "write(1) = FULL");
        refused("row(0, 4, 1)\n199 * day(50)\nday(49)\ncount(0, 0, 9)\nspray(0)\n", "day(2) = FULL\nday(50) = FULL");
    }

    private static void dark() {
        refused(READY + "power(10)\nwrite(1)\n", """
            write(1) = NO
            write(11) = NO
            power(5) = NO
            power(NONE) = NO
            write(15) = -11
            write(10) = -14
            """);
        refused(READY + "row(15, 4, 7)\npower(0)\nwrite(1)\n", "write(15) = NO");
    }

    private static void fullOfThings() {
        String things = """
            row(0, 4, 1)
            put(0, 4, 0, 3)
            storeys(7, 4)
            grid(8, 9, 10, 1, false)
            set(7, 0, 8)
            set(7, 1, 8)
            set(7, 2, 8)
            set(7, 3, 8)
            89 * copy(9, 7, true)
            """;
        String refusedThen = """
            row(0, 4, 1) = FULL
            row(0, 4, -1) = FULL
            grid(0, 9, 1, 1, true) = FULL
            grid(0, 9, -1, 1, false) = FULL
            storeys(0, 1) = FULL
            storeys(0, -1) = FULL
            tray(0, 12, 1) = FULL
            tray(0, 12, -1) = FULL
            plant(0, 0, 0, 0, 0, 0) = FULL
            plant(0, 2, 0, 0, 0, 0) = FULL
            card(0) = FULL
            copy(0, 7, true) = FULL
            copy(0, 15, false) = FULL
            shares(0, 1, 15) = FULL
            run(0) = FULL
            run(4) = BAD
            row(0, 8, 1) = BAD
            copy(0, 16, true) = BAD
            """;
        refused(things, refusedThen);
        refused("""
            row(0, 4, 1)
            put(0, 4, 0, 3)
            setStock(0, 1)
            step(0, 20, 0, 0, 0)
            step(0, 16, 0, 0, 0)
            step(0, 15, 9, 0, 0)
            step(0, 7, 1, 0, 0)
            step(0, 0, 0, 0, 0)
            step(0, 0, 0, 0, 0)
            step(0, 17, 8, 0, 0)
            step(0, 0, 0, 0, 0)
            step(0, 0, 0, 0, 0)
            23 * run(0)
            """, refusedThen);
    }

    private static void faultsOfRows() {
        refused(READY, """
            row(0, 4, -1) = -13
            grid(0, 9, -1, 1, true) = -13
            grid(0, 9, 2, -1, false) = -13
            storeys(0, -1) = -13
            tray(0, 12, -1) = -13
            get(0, 5, 0) = 0 | 4
            get(15, 5, 0) = 0 | 1
            get(0, 4, 3) = 0 | 2
            put(0, 5, 0, 1) = -14
            put(15, 4, 0, 1) = -11
            put(0, 4, 3, 1) = -12
            put(0, 4, -1, 1) = -12
            bed(2, 8, 0, 0) = 0 | 4
            bed(12, 9, 0, 0) = 0 | 1
            setBed(2, 10, 0, 0, 1) = -14
            setBed(15, 9, 0, 0, 1) = -11
            setBed(2, 9, 2, 0, 1) = -12
            setBed(2, 9, 0, 2, 1) = -12
            setBed(12, 9, 1, 0, 1) = -11
            countUp(2, 0, 0, 0, true) = 0 | 4
            countUp(15, 0, 0, 0, true) = 0 | 1
            countUp(3, 2, 0, 0, true) = 0 | 2
            countUp(3, 1, 0, 0, true) = 0 | 1
            countUp(3, 0, 2, 0, false) = 0 | 2
            countUp(3, 0, 1, 2, true) = 0 | 2
            set(0, 0, 0) = -14
            set(15, 0, 0) = -11
            set(2, 2, 0) = -12
            set(2, 0, 1) = -15
            set(4, 1, 0) = -15
            set(13, 0, 7) = -15
            lift(0, 1, 0) = -14
            lift(0, 15, 0) = -11
            lift(0, 2, 2) = -12
            liftAs(0, 1, 0, 4) = -14
            liftAs(0, 15, 0, 4) = -11
            liftAs(0, 2, -1, 4) = -12
            liftAs(0, 2, 0, 5) = -14
            shift(0, 0, 15, 0, 1) = -11
            shift(15, 0, 0, 0, 1) = -11
            shift(0, 0, 1, 0, 1) = -15
            shift(5, 0, 5, 0, 0) = -15
            shift(0, 1, 0, 0, 3) = -12
            shift(4, 2, 13, 0, 1) = -15
            size(5, 0) = -14
            size(8, 1) = -14
            size(15, 0) = -11
            """);
    }

    private static void faultsOfPlants() {
        refused(READY, """
            plant(15, 2, 0, 0, 0, 5) = -14
            plant(15, 2, 0, 0, 5, 0) = -14
            ask(0, 0) = -14
            ask(15, 0) = -11
            ask(7, 0) = -16
            ask(7, 2) = -16
            ask(15, 7) = -11
            field(0, 4) = 0 | 4
            field(15, 4) = 0 | 1
            setField(0, 4, 1) = -14
            setField(15, 4, 1) = -11
            lead(8, 0, 5) = -14
            lead(8, 1, 9) = -14
            lead(0, 0, 9) = -14
            lead(15, 0, 9) = -11
            follow(0, 5, 0) = -14
            follow(0, 15, 0) = -11
            led(0, 0) = -14
            led(15, 0) = -11
            """);
    }

    private static void faultsOfRuns() {
        // A RUN out of which a FAULT goes changes THE TRACE and what is told of the latest RUN, but no VALVE here.
        refused(READY + """
            drop(1)
            step(1, 3, 0, 0, 55)
            step(1, 3, 0, 0, 56)
            step(1, 5, 8, 66, 0)
            step(1, 1, 2, 77, 0)
            step(1, 12, 2, 3, 0)
            step(1, 1, 2, 88, 0)
            step(1, 11, 0, 0, 0)
            step(1, 13, 2, 9, 4)
            step(1, 4, 0, 1, 3)
            step(1, 6, 5, 0, 4)
            step(1, 7, 3, 0, 0)
            step(1, 0, 0, 0, 0)
            step(1, 0, 0, 0, 0)
            step(1, 0, 0, 0, 0)
            """, "run(1) = -18");
    }

    private static void faultsOfFeeds() {
        refused(READY, """
            shares(1, 5, 15) = -14
            shares(15, 5, 0) = -11
            quotient(4, 5, 0, 0) = 0 | 6
            quotient(5, 5, 0, 1) = 0 | 6
            compare(7, 0, 0, 10, 0) = -14
            compare(7, 10, 0, 0, 0) = -14
            compare(7, 15, 0, 10, 0) = -11
            compare(7, 10, 2, 10, 0) = -12
            compare(7, 10, 0, 10, -1) = -12
            real(7, 0, 0) = 0 | 4
            real(6, 15, 0) = 0 | 1
            wholeMean(1) = -14
            wholeMean(15) = -11
            wholeMean(11) = -16
            write(5) = -14
            write(10) = -14
            write(15) = -11
            """);
    }
}

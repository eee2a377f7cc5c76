/** A nursery under glass, as ../shared/DOC.md promises it; one object is one nursery. */
public final class GlassHouse {
    public static final int NONE = -1, BAD = -2, NO = -3, FULL = -4;

    private static final int NULL = 1, INDEX = 2, SIZE = 3, CAST = 4, STORE = 5, ZERO = 6, STATE = 7, OWN = 8;

    private static final int TRUTHS = 0, BYTES = 1, LETTERS = 2, SHORTS = 3, INTS = 4, LONGS = 5, FLOATS = 6,
            DOUBLES = 7;
    private static final int GRID_SHORTS = 8, GRID_INTS = 9, GRID_DOUBLES = 10, STOREYS = 11;
    private static final int TRAY_PLANTS = 12, TRAY_TOMATOES = 13, TRAY_HERBS = 14, TRAY_THIRST = 15;
    private static final int PLANT = 16, CARD = 17;
    private static final int HERB = 0, TOMATO = 1, GRAFT = 2, CRESS = 3, PROBE = 4, VALVE = 5;

    private static final int BINS = 16, MOST_CELLS = 40, MOST_BAYS = 10, MOST_STOREYS = 4, MOST_TRAY = 8;
    private static final int MOST_FAULTS = 3000, MOST_THINGS = 4000, MOST_DEPTH = 4;
    private static final long FLOAT_NO_NUMBER = 0x7FC00000L, NO_NUMBER = 0x7FF8000000000000L;
    private static final long SIGN = 0x8000000000000000L, ALL_BUT_SIGN = 0x7FFFFFFFFFFFFFFFL,
            ENDLESS = 0x7FF0000000000000L, FRACTION = 0xFFFFFFFFFFFFFL;
    private static final long[] NO_CELLS = {};

    private final Runner runner = new Runner();
    private final Thing[] bins = runner.bins;
    private final Asker asker = runner.asker;
    private final Plans plans = runner.plans;
    private final Stores stores = runner.stores;
    private final Houses houses = new Houses();
    private final Tables tables = houses.tables;
    private final Feeds feeds = new Feeds();
    private final Pests pests = new Pests();
    private final Books books = new Books();
    private final long[] scratch = new long[MOST_CELLS];
    private final long[] weights = new long[MOST_CELLS];
    private int thingsMade;
    private int faultsEver;
    private int latestFault;
    private int plantsMade;
    private int cardsMade;
    private int cameLatest;
    private int answerTold;
    private int walks;

    public GlassHouse() {
    }

    // ---- 1 rows, beds, bins

    public int row(int bin, int lane, int n) {
        if (!isBin(bin) || !isLane(lane) || n > MOST_CELLS) {
            return BAD;
        }
        if (isFull()) {
            return FULL;
        }
        if (n < 0) {
            return fail(SIZE);
        }
        bins[bin] = newRow(lane, n);
        return 1;
    }

    public int grid(int bin, int form, int a, int n, boolean bare) {
        if (!isBin(bin) || !isGridForm(form) || a > MOST_BAYS || n > MOST_CELLS) {
            return BAD;
        }
        if (isFull()) {
            return FULL;
        }
        if (a < 0 || (n < 0 && !bare)) {
            return fail(SIZE);
        }
        Thing made = newPlaces(form, a);
        if (!bare) {
            for (int i = 0; i < made.places.length; i++) {
                made.places[i] = newRow(laneOfGrid(form), n);
            }
        }
        bins[bin] = made;
        return 1;
    }

    public int storeys(int bin, int n) {
        if (!isBin(bin) || n > MOST_STOREYS) {
            return BAD;
        }
        return intoBin(bin, STOREYS, n);
    }

    public int share(int bin, int from) {
        if (!isBin(bin) || (from != NONE && !isBin(from))) {
            return BAD;
        }
        bins[bin] = from == NONE ? null : bins[from];
        return 1;
    }

    public int form(int bin) {
        if (!isBin(bin)) {
            return BAD;
        }
        Thing held = bins[bin];
        return held == null ? NONE : held.form;
    }

    public int is(int bin, int form) {
        if (!isBin(bin) || !isForm(form)) {
            return BAD;
        }
        Thing held = bins[bin];
        if (held == null) {
            return 0;
        }
        if (held.form == PLANT && isTrayForm(form)) {
            return trayTakes(form, held.kind) ? 1 : 0;
        }
        return held.form == form ? 1 : 0;
    }

    public long get(int bin, int lane, int i) {
        if (!isBin(bin) || !isLane(lane)) {
            return 0;
        }
        Thing held = bins[bin];
        int wrong = cellFault(held, lane, i);
        if (wrong != 0 || held == null) {
            fail(wrong);
            return 0;
        }
        return held.cells[i];
    }

    public int put(int bin, int lane, int i, long bits) {
        if (!isBin(bin) || !isLane(lane)) {
            return BAD;
        }
        Thing held = bins[bin];
        int wrong = cellFault(held, lane, i);
        if (wrong != 0 || held == null) {
            return fail(wrong);
        }
        held.cells[i] = cellOf(lane, bits);
        return 1;
    }

    public long bed(int bin, int form, int i, int j) {
        if (!isBin(bin) || !isGridForm(form)) {
            return 0;
        }
        Thing bay = bayAt(bins[bin], form, i);
        int wrong = bayFault(bins[bin], form, i, j);
        if (wrong != 0 || bay == null) {
            fail(wrong);
            return 0;
        }
        return bay.cells[j];
    }

    public int setBed(int bin, int form, int i, int j, long bits) {
        if (!isBin(bin) || !isGridForm(form)) {
            return BAD;
        }
        Thing bay = bayAt(bins[bin], form, i);
        int wrong = bayFault(bins[bin], form, i, j);
        if (wrong != 0 || bay == null) {
            return fail(wrong);
        }
        bay.cells[j] = cellOf(laneOfGrid(form), bits);
        return 1;
    }

    public int countUp(int bin, int s, int i, int j, boolean after) {
        if (!isBin(bin)) {
            return 0;
        }
        Thing house = bins[bin];
        int wrong = placeFault(house, STOREYS, s);
        Thing storey = wrong == 0 ? placeOf(house, s) : null;
        if (wrong == 0) {
            wrong = bayFault(storey, GRID_INTS, i, j);
        }
        Thing bay = wrong == 0 ? bayAt(storey, GRID_INTS, i) : null;
        if (bay == null) {
            fail(wrong);
            return 0;
        }
        int before = (int) bay.cells[j];
        bay.cells[j] = before + 1;
        return after ? before + 1 : before;
    }

    public int set(int bin, int i, int from) {
        if (!isBin(bin) || !isBin(from)) {
            return BAD;
        }
        Thing held = bins[bin];
        int wrong = placesFault(held, i);
        if (wrong != 0 || held == null) {
            return fail(wrong);
        }
        if (!takes(held.form, bins[from])) {
            return fail(STORE);
        }
        held.places[i] = bins[from];
        return 1;
    }

    public int lift(int bin, int from, int i) {
        if (!isBin(bin) || !isBin(from)) {
            return BAD;
        }
        int wrong = placesFault(bins[from], i);
        if (wrong != 0) {
            return fail(wrong);
        }
        bins[bin] = placeOf(bins[from], i);
        return 1;
    }

    public int liftAs(int bin, int from, int i, int form) {
        if (!isBin(bin) || !isBin(from) || !isForm(form)) {
            return BAD;
        }
        int wrong = placesFault(bins[from], i);
        if (wrong != 0) {
            return fail(wrong);
        }
        Thing there = placeOf(bins[from], i);
        if (!goesFor(there, form)) {
            return fail(CAST);
        }
        bins[bin] = there;
        return 1;
    }

    public int shift(int bin, int i, int other, int j, int n) {
        if (!isBin(bin) || !isBin(other)) {
            return BAD;
        }
        cameLatest = 0;
        Thing source = bins[bin];
        Thing target = bins[other];
        if (source == null || target == null) {
            return fail(NULL);
        }
        if (!shiftable(source, target)) {
            return fail(STORE);
        }
        if (!spanFits(source.length(), i, n) || !spanFits(target.length(), j, n)) {
            return fail(INDEX);
        }
        if (isRow(source)) {
            moveCells(source, i, target, j, n);
            cameLatest = n;
            return n;
        }
        cameLatest = leadTaken(source, i, target, n);
        movePlaces(source, i, target, j, cameLatest);
        return cameLatest == n ? n : fail(STORE);
    }

    public int came() {
        return cameLatest;
    }

    public int copy(int bin, int from, boolean deep) {
        if (!isBin(bin) || !isBin(from)) {
            return BAD;
        }
        if (isFull()) {
            return FULL;
        }
        bins[bin] = copied(bins[from], deep, 0);
        return 1;
    }

    public int alike(int bin, int other) {
        if (!isBin(bin) || !isBin(other)) {
            return BAD;
        }
        if (bins[bin] == bins[other]) {
            return 2;
        }
        return equalThings(bins[bin], bins[other], 0) ? 1 : 0;
    }

    public int size(int bin, int what) {
        if (!isBin(bin) || what < 0 || what > 1) {
            return BAD;
        }
        Thing held = bins[bin];
        if (held == null) {
            return fail(NULL);
        }
        if (!isRow(held) && !isPlacesForm(held.form)) {
            return fail(CAST);
        }
        return what == 0 ? held.length() : held.emptyPlaces();
    }

    // ---- 2 plants, cards

    public int plant(int bin, int kind, int a, int b, int p, int q) {
        if (!isBin(bin) || kind < HERB || kind > VALVE) {
            return BAD;
        }
        if (kind == GRAFT && (!isBin(p) || !isBin(q))) {
            return BAD;
        }
        if (isFull()) {
            return FULL;
        }
        Thing made = new Thing(PLANT, NO_CELLS, new Thing[kind == GRAFT ? 2 : 0]);
        if (kind == GRAFT && isBin(p) && isBin(q)) {
            if (!goesFor(bins[p], PLANT) || !goesFor(bins[q], PLANT)) {
                return fail(CAST);
            }
            made.depth = 1 + Math.max(depthOf(bins[p]), depthOf(bins[q]));
            if (made.depth > MOST_DEPTH) {
                return FULL;
            }
            made.places[0] = bins[p];
            made.places[1] = bins[q];
        }
        made.kind = kind;
        made.a = a;
        made.b = b;
        made.number = plantsMade;
        plantsMade++;
        thingsMade++;
        bins[bin] = made;
        return made.number;
    }

    public int tray(int bin, int form, int n) {
        if (!isBin(bin) || !isTrayForm(form) || n > MOST_TRAY) {
            return BAD;
        }
        return intoBin(bin, form, n);
    }

    public int ask(int bin, int what) {
        if (!isBin(bin) || what < 0 || what > 7) {
            return BAD;
        }
        asker.beginAsk();
        Thing held = bins[bin];
        int told = asker.tell(held, what);
        if (asker.fault != 0) {
            return fail(asker.fault);
        }
        answerTold = told;
        return 1;
    }

    public int answer() {
        return answerTold;
    }

    public int trace(int i) {
        return asker.traceAt(i);
    }

    public int card(int bin) {
        if (!isBin(bin)) {
            return BAD;
        }
        if (isFull()) {
            return FULL;
        }
        Thing made = newCard();
        bins[bin] = made;
        return made.number;
    }

    public long field(int bin, int lane) {
        if (!isBin(bin) || !isLane(lane)) {
            return 0;
        }
        Thing held = bins[bin];
        int wrong = takenFault(held, CARD);
        if (wrong != 0 || held == null) {
            fail(wrong);
            return 0;
        }
        return held.cells[lane];
    }

    public int setField(int bin, int lane, long bits) {
        if (!isBin(bin) || !isLane(lane)) {
            return BAD;
        }
        Thing held = bins[bin];
        int wrong = takenFault(held, CARD);
        if (wrong != 0 || held == null) {
            return fail(wrong);
        }
        held.cells[lane] = cellOf(lane, bits);
        return 1;
    }

    public int lead(int bin, int what, int from) {
        if (!isBin(bin) || !isBin(from) || what < 0 || what > 1) {
            return BAD;
        }
        Thing held = bins[bin];
        if (!goesFor(held, CARD) || !goesFor(bins[from], what == 0 ? CARD : PLANT)) {
            return fail(CAST);
        }
        if (held == null) {
            return fail(NULL);
        }
        held.places[what] = bins[from];
        return 1;
    }

    public int follow(int bin, int from, int what) {
        if (!isBin(bin) || !isBin(from) || what < 0 || what > 1) {
            return BAD;
        }
        Thing held = bins[from];
        int wrong = takenFault(held, CARD);
        if (wrong != 0 || held == null) {
            return fail(wrong);
        }
        bins[bin] = held.places[what];
        return 1;
    }

    public int led(int bin, int what) {
        if (!isBin(bin) || what < 0 || what > 2) {
            return BAD;
        }
        Thing held = bins[bin];
        int wrong = takenFault(held, CARD);
        if (wrong != 0 || held == null) {
            return fail(wrong);
        }
        walks++;
        Thing last = held;
        Thing next = held;
        int many = 0;
        while (many < 1000000 && next != null && next.seen != walks) {
            next.seen = walks;
            last = next;
            next = next.places[0];
            many++;
        }
        if (what == 0) {
            return many;
        }
        if (what == 2) {
            return last.number;
        }
        return next == null ? NONE : next.number;
    }

    // ---- 3 acts

    public int step(int plan, int op, int a, int b, int c) {
        if (!isPlan(plan) || op < 0 || op > 20) {
            return BAD;
        }
        return plans.added(plan, op, a, b, c);
    }

    public int drop(int plan) {
        return isPlan(plan) ? plans.emptied(plan) : BAD;
    }

    public int formed(int plan) {
        return isPlan(plan) ? plans.firstWrong(plan) : 0;
    }

    public int run(int plan) {
        if (!isPlan(plan)) {
            return BAD;
        }
        if (plans.firstWrong(plan) != NONE) {
            return NO;
        }
        if (isFull()) {
            return FULL;
        }
        int end = runner.wholeRun(plan);
        faultsEver += runner.toldOf(8);
        if (runner.faultOut() != 0) {
            latestFault = runner.faultOut();
        }
        return end;
    }

    public int ran(int what) {
        if (what < 0 || what > 8) {
            return BAD;
        }
        return runner.toldOf(what);
    }

    public long stock(int k) {
        return isStock(k) ? stores.amounts[k] : 0;
    }

    public int setStock(int k, long v) {
        if (!isStock(k)) {
            return BAD;
        }
        stores.amounts[k] = v;
        return 1;
    }

    public int valve(int v, int what) {
        if (!isValve(v) || what < 0 || what > 1) {
            return 0;
        }
        return what == 0 ? stores.valvePlaces[v] : stores.valveHolds[v];
    }

    // ---- 4 tables

    public int line(int table, int x, int y) {
        if (!isTable(table)) {
            return BAD;
        }
        return tables.lineAdded(table, x, y);
    }

    public int rest(int table, int on) {
        if (!isTable(table) || (on != NONE && !isTable(on))) {
            return BAD;
        }
        return tables.rested(table, on);
    }

    public int value(int table, int x) {
        return isTable(table) ? tables.valueAt(table, x) : 0;
    }

    public int laid(int k) {
        return tables.laidAt(k);
    }

    // ---- 5, 6 probes, air

    public int read(int probe, long bits) {
        if (!isProbe(probe)) {
            return BAD;
        }
        houses.takeReading(probe, cellOf(DOUBLES, bits));
        return 1;
    }

    public int part(long bits) {
        if (!isNumber(bits) || realOf(bits) < 0) {
            return BAD;
        }
        houses.part = realOf(bits);
        return 1;
    }

    public int probe(int probe, int what) {
        if (!isProbe(probe) || what < 0 || what > 4) {
            return BAD;
        }
        return houses.probes[probe][what];
    }

    public long voted(int house) {
        return isHouse(house) ? houses.values[house] : 0;
    }

    public int weather(int what, int v) {
        return houses.newWeather(what, v);
    }

    public int mark(int house, int minute, int wish) {
        return isHouse(house) ? houses.markAdded(house, minute, wish) : BAD;
    }

    public int unmark(int house) {
        return isHouse(house) ? houses.marksGone(house) : BAD;
    }

    public int wish(int house, int minute) {
        if (!isHouse(house) || minute < 0 || minute > 1439) {
            return -100000;
        }
        return houses.hasWish(house) ? houses.wishAt(house, minute) : -100001;
    }

    public int minute(int n) {
        if (n < 1 || n > 100) {
            return BAD;
        }
        if (houses.minuteNow + n > 100000) {
            return FULL;
        }
        for (int k = 0; k < n; k++) {
            houses.passMinute();
        }
        return houses.minuteNow;
    }

    public long air(int house, int what) {
        return isHouse(house) && what >= 0 && what <= 10 ? houses.airs[house][what] : 0;
    }

    // ---- 7 water, feeds

    public int shares(int bin, int n, int to) {
        if (!isBin(bin) || !isBin(to) || n < 0 || n > 1000000000) {
            return BAD;
        }
        Thing held = bins[bin];
        int wrong = takenFault(held, INTS);
        if (wrong != 0 || held == null) {
            return fail(wrong);
        }
        int many = Math.min(held.cells.length, MOST_CELLS);
        if (!canShare(held)) {
            return NO;
        }
        if (isFull()) {
            return FULL;
        }
        for (int i = 0; i < many; i++) {
            weights[i] = held.cells[i];
        }
        Thing made = newRow(LONGS, many);
        shareOut(n, weights, many, made.cells, scratch);
        bins[to] = made;
        return 1;
    }

    public long quotient(int lane, long a, long b, int what) {
        if ((lane != INTS && lane != LONGS) || what < 0 || what > 1) {
            return 0;
        }
        if (lane == INTS) {
            int upper = (int) a;
            int lower = (int) b;
            if (lower == 0) {
                fail(ZERO);
                return 0;
            }
            return what == 0 ? upper / lower : upper % lower;
        }
        if (b == 0) {
            fail(ZERO);
            return 0;
        }
        return what == 0 ? a / b : a % b;
    }

    public int compare(int lane, int bin, int i, int other, int j) {
        if ((lane != FLOATS && lane != DOUBLES) || !isBin(bin) || !isBin(other)) {
            return BAD;
        }
        Thing first = bins[bin];
        Thing second = bins[other];
        if (!goesFor(first, lane) || !goesFor(second, lane)) {
            return fail(CAST);
        }
        int wrong = cellFault(first, lane, i);
        if (wrong == 0) {
            wrong = cellFault(second, lane, j);
        }
        if (wrong != 0 || first == null || second == null) {
            return fail(wrong);
        }
        return flagsOf(doubleBits(lane, first.cells[i]), doubleBits(lane, second.cells[j]));
    }

    public long real(int lane, int bin, int what) {
        if ((lane != FLOATS && lane != DOUBLES) || !isBin(bin) || what < 0 || what > 3) {
            return 0;
        }
        Thing held = bins[bin];
        int wrong = takenFault(held, lane);
        if (wrong != 0 || held == null) {
            fail(wrong);
            return 0;
        }
        int many = gatherNumbers(held, lane);
        if (many == 0) {
            return NO_NUMBER;
        }
        if (what == 2) {
            return meanBits(many);
        }
        sortByOrder(scratch, many);
        int index = what == 0 ? 0 : what == 1 ? many - 1 : (many - 1) / 2;
        return scratch[index];
    }

    public int wholeMean(int bin) {
        if (!isBin(bin)) {
            return BAD;
        }
        Thing held = bins[bin];
        int wrong = takenFault(held, INTS);
        if (wrong != 0 || held == null) {
            return fail(wrong);
        }
        int many = held.cells.length;
        if (many == 0) {
            return fail(ZERO);
        }
        long sum = 0;
        for (int i = 0; i < many; i++) {
            sum += held.cells[i];
        }
        answerTold = (int) (sum / many);
        return 1;
    }

    public int salt(int salt, int j, int v) {
        if (salt < 0 || salt > 5 || j < 0 || j > 2 || v < 0 || v > (salt < 4 ? 99 : 999)) {
            return BAD;
        }
        return feeds.becomes(salt, j, v);
    }

    public int work() {
        return feeds.solved();
    }

    public long worked(int what, int k) {
        return feeds.outcome(what, k);
    }

    // ---- 8 pests

    public int count(int pest, int stage, int n) {
        if (!isPest(pest) || !isStage(stage) || n < 0 || n > Pests.MOST) {
            return BAD;
        }
        pests.numbers[pest][stage] = n;
        return 1;
    }

    public int parts(int pest, int stage, int on, int stays, int young) {
        if (!isPest(pest) || !isStage(stage) || !isPart(on) || !isPart(stays) || !isPart(young)) {
            return BAD;
        }
        pests.setParts(pest, stage, on, stays, young);
        return 1;
    }

    public int day(int n) {
        if (n < 1 || n > 50) {
            return BAD;
        }
        if (pests.days + n > 10000) {
            return FULL;
        }
        for (int k = 0; k < n; k++) {
            pests.passDay();
        }
        return pests.days;
    }

    public int spray(int pest) {
        if (!isPest(pest)) {
            return BAD;
        }
        pests.lessen(pest);
        return 1;
    }

    public int pest(int pest, int stage) {
        return isPest(pest) && isStage(stage) ? (int) pests.numbers[pest][stage] : BAD;
    }

    public int wait1() {
        return pests.waiting;
    }

    // ---- 9 pages

    public int write(int bin) {
        if (!isBin(bin)) {
            return BAD;
        }
        Thing held = bins[bin];
        if (held == null) {
            return fail(NULL);
        }
        if (!Books.writes(held.form)) {
            return fail(CAST);
        }
        return books.written(held.form, held.cells);
    }

    public int power(int n) {
        if (n < NONE || n > 200) {
            return BAD;
        }
        return books.powerSet(n);
    }

    public int open1() {
        return books.opened();
    }

    public long page(int k, int what) {
        return books.readOf(k, what);
    }

    public int octet(int page, int i) {
        return Books.isByte(page, i) ? books.bytes[page * Books.LENGTH + i] : BAD;
    }

    public int damage(int page, int i, int mask) {
        if (!Books.isByte(page, i) || mask < 0 || mask > 255) {
            return BAD;
        }
        books.bytes[page * Books.LENGTH + i] ^= mask;
        return books.bytes[page * Books.LENGTH + i];
    }

    public int told(int what) {
        switch (what) {
            case 0:
                return houses.minuteNow;
            case 1:
                return thingsMade;
            case 2:
                return faultsEver;
            case 3:
                return books.latest;
            case 4:
                return books.next;
            case 5:
                return books.dark ? 1 : 0;
            case 6:
                return books.clashes();
            case 7:
                return pests.days;
            case 8:
                return books.gatherRead();
            case 9:
                return plans.stepsInAll();
            case 10:
                return tables.laidMany;
            default:
                return BAD;
        }
    }

    public int fault() {
        return latestFault;
    }

    // ---- numbers that are as told

    private static boolean isBin(int bin) {
        return bin >= 0 && bin < BINS;
    }

    private static boolean isLane(int lane) {
        return lane >= TRUTHS && lane <= DOUBLES;
    }

    private static boolean isForm(int form) {
        return form >= TRUTHS && form <= CARD;
    }

    private static boolean isGridForm(int form) {
        return form >= GRID_SHORTS && form <= GRID_DOUBLES;
    }

    private static boolean isTrayForm(int form) {
        return form >= TRAY_PLANTS && form <= TRAY_THIRST;
    }

    private static boolean isPlacesForm(int form) {
        return form >= GRID_SHORTS && form <= TRAY_THIRST;
    }

    private static boolean isPlan(int plan) {
        return plan >= 0 && plan < Plans.MANY;
    }

    private static boolean isStock(int k) {
        return k >= 0 && k < Stores.STOCKS;
    }

    private static boolean isValve(int v) {
        return v >= 0 && v < Stores.VALVES;
    }

    private static boolean isTable(int table) {
        return table >= 0 && table < Tables.MANY;
    }

    private static boolean isProbe(int probe) {
        return probe >= 0 && probe < Houses.PROBES;
    }

    private static boolean isHouse(int house) {
        return house >= 0 && house < Houses.MANY;
    }

    private static boolean isPest(int pest) {
        return pest >= 0 && pest < Pests.MANY;
    }

    private static boolean isStage(int stage) {
        return stage >= 0 && stage < Pests.STAGES;
    }

    private static boolean isPart(int part) {
        return part >= 0 && part <= 1000;
    }

    // ---- faults and limits

    private int fail(int kind) {
        faultsEver++;
        latestFault = kind;
        return -10 - kind;
    }

    private boolean isFull() {
        return faultsEver >= MOST_FAULTS || thingsMade >= MOST_THINGS;
    }

    // ---- things

    private static boolean isRow(Thing thing) {
        return thing.form <= DOUBLES;
    }

    private static int laneOfGrid(int form) {
        return form == GRID_SHORTS ? SHORTS : form == GRID_INTS ? INTS : DOUBLES;
    }

    private static boolean goesFor(Thing thing, int form) {
        return thing == null || thing.form == form;
    }

    private static int takenFault(Thing thing, int form) {
        if (!goesFor(thing, form)) {
            return CAST;
        }
        return thing == null ? NULL : 0;
    }

    private static int cellFault(Thing thing, int lane, int i) {
        int wrong = takenFault(thing, lane);
        if (wrong != 0 || thing == null) {
            return wrong;
        }
        return i < 0 || i >= thing.cells.length ? INDEX : 0;
    }

    private static int placeFault(Thing thing, int form, int i) {
        int wrong = takenFault(thing, form);
        if (wrong != 0 || thing == null) {
            return wrong;
        }
        return i < 0 || i >= thing.places.length ? INDEX : 0;
    }

    private static int placesFault(Thing thing, int i) {
        if (thing == null) {
            return NULL;
        }
        return isPlacesForm(thing.form) ? placeFault(thing, thing.form, i) : CAST;
    }

    private static int bayFault(Thing grid, int form, int i, int j) {
        int wrong = placeFault(grid, form, i);
        if (wrong != 0) {
            return wrong;
        }
        return cellFault(placeOf(grid, i), laneOfGrid(form), j);
    }

    private static Thing bayAt(Thing grid, int form, int i) {
        return placeFault(grid, form, i) == 0 ? placeOf(grid, i) : null;
    }

    private static Thing placeOf(Thing thing, int i) {
        return thing == null || i < 0 || i >= thing.places.length ? null : thing.places[i];
    }

    private static int depthOf(Thing plant) {
        return plant == null ? 0 : plant.depth;
    }

    private static boolean trayTakes(int form, int kind) {
        switch (form) {
            case TRAY_PLANTS:
                return kind <= CRESS;
            case TRAY_TOMATOES:
                return kind == TOMATO || kind == GRAFT;
            case TRAY_HERBS:
                return kind == HERB || kind == CRESS;
            case TRAY_THIRST:
                return thirsts(kind);
            default:
                return false;
        }
    }

    private static boolean thirsts(int kind) {
        return kind != HERB && kind != PROBE;
    }

    private static boolean takes(int form, Thing thing) {
        if (thing == null) {
            return true;
        }
        if (isGridForm(form)) {
            return thing.form == laneOfGrid(form);
        }
        if (form == STOREYS) {
            return thing.form == GRID_INTS;
        }
        return thing.form == PLANT && trayTakes(form, thing.kind);
    }

    private Thing newRow(int lane, int n) {
        thingsMade++;
        return new Thing(lane, new long[n < 0 ? 0 : n], new Thing[0]);
    }

    private Thing newPlaces(int form, int n) {
        thingsMade++;
        return new Thing(form, NO_CELLS, new Thing[n < 0 ? 0 : n]);
    }

    private Thing newCard() {
        thingsMade++;
        Thing made = new Thing(CARD, new long[DOUBLES + 1], new Thing[2]);
        made.number = cardsMade;
        cardsMade++;
        return made;
    }

    private int intoBin(int bin, int form, int n) {
        if (isFull()) {
            return FULL;
        }
        if (n < 0) {
            return fail(SIZE);
        }
        bins[bin] = newPlaces(form, n);
        return 1;
    }

    private Thing copied(Thing thing, boolean deep, int level) {
        if (thing == null || thing.form == PLANT || level > 3) {
            return thing;
        }
        if (isRow(thing)) {
            Thing made = newRow(thing.form, thing.cells.length);
            moveCells(thing, 0, made, 0, thing.cells.length);
            return made;
        }
        if (thing.form == CARD) {
            Thing made = newCard();
            moveCells(thing, 0, made, 0, thing.cells.length);
            movePlaces(thing, 0, made, 0, thing.places.length);
            return made;
        }
        Thing made = newPlaces(thing.form, thing.places.length);
        for (int i = 0; i < made.places.length; i++) {
            made.places[i] = deep ? copied(thing.places[i], true, level + 1) : thing.places[i];
        }
        return made;
    }

    private static boolean equalThings(Thing one, Thing two, int level) {
        if (one == two) {
            return true;
        }
        if (one == null || two == null || one.form != two.form || one.form == PLANT || level > 3) {
            return false;
        }
        if (!equalCells(one, two) || one.places.length != two.places.length) {
            return false;
        }
        for (int i = 0; i < one.places.length; i++) {
            boolean same = one.form == CARD ? one.places[i] == two.places[i]
                    : equalThings(one.places[i], two.places[i], level + 1);
            if (!same) {
                return false;
            }
        }
        return true;
    }

    private static boolean equalCells(Thing one, Thing two) {
        if (one.cells.length != two.cells.length) {
            return false;
        }
        for (int i = 0; i < one.cells.length; i++) {
            if (one.cells[i] != two.cells[i]) {
                return false;
            }
        }
        return true;
    }

    // ---- what shifts

    private static boolean shiftable(Thing source, Thing target) {
        if (isRow(source) || isRow(target)) {
            return source.form == target.form;
        }
        return isPlacesForm(source.form) && isPlacesForm(target.form);
    }

    private static boolean spanFits(int length, int from, int n) {
        return from >= 0 && n >= 0 && n <= length && from <= length - n;
    }

    private static int leadTaken(Thing source, int i, Thing target, int n) {
        for (int k = 0; k < n; k++) {
            if (!takes(target.form, placeOf(source, i + k))) {
                return k;
            }
        }
        return n;
    }

    private static void moveCells(Thing source, int i, Thing target, int j, int n) {
        if (!spanFits(source.cells.length, i, n) || !spanFits(target.cells.length, j, n)) {
            return;
        }
        // Backwards where the target lies behind, so that no cell is overwritten ahead of its turn.
        for (int k = 0; k < n; k++) {
            int at = j > i ? n - 1 - k : k;
            target.cells[j + at] = source.cells[i + at];
        }
    }

    private static void movePlaces(Thing source, int i, Thing target, int j, int n) {
        if (!spanFits(source.places.length, i, n) || !spanFits(target.places.length, j, n)) {
            return;
        }
        for (int k = 0; k < n; k++) {
            int at = j > i ? n - 1 - k : k;
            target.places[j + at] = source.places[i + at];
        }
    }

    // ---- bits of cells

    private static long cellOf(int lane, long bits) {
        switch (lane) {
            case TRUTHS:
                return bits & 1;
            case BYTES:
                return (byte) bits;
            case LETTERS:
                return bits & 0xFFFF;
            case SHORTS:
                return (short) bits;
            case INTS:
                return (int) bits;
            case FLOATS:
                return (bits & 0x7FFFFFFF) > 0x7F800000L ? FLOAT_NO_NUMBER : (int) bits;
            case DOUBLES:
                return isNumber(bits) ? bits : NO_NUMBER;
            default:
                return bits;
        }
    }

    private static boolean isNumber(long bits) {
        return (bits & ALL_BUT_SIGN) <= ENDLESS;
    }

    /** The bits of the double that is the cell of a row of floats or doubles. */
    private static long doubleBits(int lane, long bits) {
        return lane == FLOATS ? widened(bits) : bits;
    }

    private static long widened(long bits) {
        long sign = bits & SIGN;
        long exponent = (bits >> 23) & 255;
        long rest = bits & 0x7FFFFF;
        if (exponent == 255) {
            return rest == 0 ? sign | ENDLESS : NO_NUMBER;
        }
        if (exponent != 0) {
            return sign | ((exponent + 896) << 52) | (rest << 29);
        }
        if (rest == 0) {
            return sign;
        }
        int top = 63 - Long.numberOfLeadingZeros(rest);
        return sign | ((top + 874L) << 52) | ((rest << (52 - top)) & FRACTION);
    }

    /** Order of the numbers with -0.0 below 0.0; the same function leads back to the bits. */
    private static long orderKey(long bits) {
        return bits ^ ((bits >> 63) & ALL_BUT_SIGN);
    }

    private static void sortByOrder(long[] bits, int many) {
        int most = Math.min(many, bits.length);
        for (int i = 1; i < most; i++) {
            long next = bits[i];
            int at = i;
            while (at > 0 && orderKey(bits[at - 1]) > orderKey(next)) {
                bits[at] = bits[at - 1];
                at--;
            }
            bits[at] = next;
        }
    }

    private static int flagsOf(long first, long second) {
        if (!isNumber(first) || !isNumber(second)) {
            return 32;
        }
        // The machine holds -0.0 and 0.0 alike.
        long one = first == SIGN ? 0 : orderKey(first);
        long two = second == SIGN ? 0 : orderKey(second);
        if (one == two) {
            return 2 + 8 + 16;
        }
        return one < two ? 1 + 2 + 32 : 4 + 8 + 32;
    }

    private int gatherNumbers(Thing row, int lane) {
        int many = 0;
        for (int i = 0; i < row.cells.length && many < scratch.length; i++) {
            long bits = doubleBits(lane, row.cells[i]);
            if (isNumber(bits)) {
                scratch[many] = bits;
                many++;
            }
        }
        return many;
    }

    private long meanBits(int many) {
        double sum = 0.0;
        for (int i = 0; i < many && i < scratch.length; i++) {
            double next = realOf(scratch[i]);
            if (isEndless(sum) && isEndless(next) && (sum < 0) != (next < 0)) {
                return NO_NUMBER;
            }
            sum += next;
        }
        if (many < 1) {
            return NO_NUMBER;
        }
        return sum < 0 ? SIGN | bitsOf(-sum / many) : bitsOf(sum / many);
    }

    // ---- reals by their bits, without the library

    private static boolean isEndless(double real) {
        return real != 0 && real * 0.5 == real;
    }

    /** The real times 2 to the power, exact where the outcome is one. */
    private static double scaled(double real, int power) {
        double outcome = real;
        double factor = power < 0 ? 0.5 : 2.0;
        int left = power < 0 ? -power : power;
        for (int k = 0; k < 11 && left > 0; k++) {
            if ((left & 1) == 1) {
                outcome = outcome * factor;
            }
            left >>= 1;
            factor = factor * factor;
        }
        return outcome;
    }

    /** The bits must be those of a number. */
    private static double realOf(long bits) {
        int exponent = (int) ((bits >> 52) & 2047);
        long rest = bits & FRACTION;
        double size;
        if (exponent == 2047) {
            size = scaled(1.0, 1024);
        } else if (exponent == 0) {
            size = scaled((double) rest, -1074);
        } else {
            size = scaled((double) (rest | (FRACTION + 1)), exponent - 1075);
        }
        return bits < 0 ? -size : size;
    }

    /** The real must be a number that is not below 0. */
    private static long bitsOf(double real) {
        if (real == 0) {
            return 0;
        }
        if (isEndless(real)) {
            return ENDLESS;
        }
        double size = real;
        int power = 0;
        for (int step = 512; step > 0; step /= 2) {
            if (size >= scaled(1.0, step)) {
                size = scaled(size, -step);
                power += step;
            }
        }
        if (size < scaled(1.0, -511)) {
            size = scaled(size, 512);
            power -= 512;
        }
        for (int step = 512; step > 0; step /= 2) {
            if (size < scaled(1.0, 1 - step)) {
                size = scaled(size, step);
                power -= step;
            }
        }
        long digits = (long) scaled(size, 52);
        if (power < -1022) {
            return digits >> (-1022 - power);
        }
        return ((power + 1023L) << 52) | (digits & FRACTION);
    }

    // ---- shares

    private static boolean canShare(Thing row) {
        long sum = 0;
        for (int i = 0; i < row.cells.length; i++) {
            if (row.cells[i] < 0) {
                return false;
            }
            sum += row.cells[i];
        }
        return sum > 0;
    }

    /** Shares of n by the first many weights go to the outcome; rests is room for the work. */
    private static void shareOut(long n, long[] weights, int many, long[] outcome, long[] rests) {
        long sum = 0;
        for (int i = 0; i < many; i++) {
            sum += weights[i];
        }
        if (sum <= 0) {
            return;
        }
        long left = n;
        for (int i = 0; i < many; i++) {
            outcome[i] = n * weights[i] / sum;
            rests[i] = n * weights[i] % sum;
            left -= outcome[i];
        }
        for (int k = 0; k < many && left > 0; k++) {
            int greatest = 0;
            for (int i = 1; i < many; i++) {
                if (rests[i] > rests[greatest]) {
                    greatest = i;
                }
            }
            outcome[greatest]++;
            // Below every rest, so that each gets one at most.
            rests[greatest] = -1;
            left--;
        }
    }

    /** A row, a grid, storeys, a tray, a plant or a card, by its form. */
    private static final class Thing {
        final int form;
        /** Bits of the cells of a row, of the fields of a card. */
        final long[] cells;
        /** Bays, storeys' and trays' places; the parts of a graft; the next card and the leaf of a card. */
        final Thing[] places;
        int kind;
        int number;
        int a;
        int b;
        int depth;
        /** The latest walk along cards that came by here. */
        int seen;

        Thing(int form, long[] cells, Thing[] places) {
            this.form = form;
            this.cells = cells;
            this.places = places;
        }

        int length() {
            return form <= DOUBLES ? cells.length : places.length;
        }

        int emptyPlaces() {
            int many = 0;
            for (int i = 0; i < places.length; i++) {
                if (places[i] == null) {
                    many++;
                }
            }
            return many;
        }
    }

    /** Asks of plants, by the bodies of their kinds, and the trace that these leave. */
    private static final class Asker {
        private static final int ASK_SIZE = 0, ASK_THIRST = 1, ASK_COST = 2, ASK_MARK = 3;

        private final int[] numbers = new int[128];
        private int many;
        /** The fault of the latest ask; 0 without. */
        int fault;

        int traceAt(int i) {
            return i >= 0 && i < many && i < numbers.length ? numbers[i] : NONE;
        }

        void beginAsk() {
            many = 0;
            fault = 0;
        }

        int tell(Thing plant, int what) {
            if (plant == null) {
                return faulted(NULL);
            }
            if (plant.form != PLANT || !answers(plant.kind, what)) {
                return faulted(CAST);
            }
            if (what == ASK_COST) {
                int cost = costAlone(plant);
                return plant.kind == CRESS && fault == 0 ? cost + thirstOf(plant) : cost;
            }
            switch (what) {
                case ASK_SIZE:
                    return sizeOf(plant, 0);
                case ASK_THIRST:
                    return thirstOf(plant);
                case ASK_MARK:
                    return markOf(plant);
                case 4:
                    return plant.kind == GRAFT ? 9 : 7;
                case 5:
                    return plant.number;
                case 6:
                    return plant.kind;
                default:
                    return plant.depth;
            }
        }

        private static boolean answers(int kind, int what) {
            if (what == ASK_THIRST) {
                return thirsts(kind);
            }
            return what != ASK_COST || kind != VALVE;
        }

        private void begin(int body) {
            if (many < numbers.length) {
                numbers[many] = body;
                many++;
            }
        }

        private int faulted(int kind) {
            fault = kind;
            return 0;
        }

        private int sizeOf(Thing plant, int level) {
            if (plant == null || level > MOST_DEPTH) {
                return faulted(NULL);
            }
            int ofParts = 0;
            if (plant.kind == GRAFT) {
                begin(3);
                for (int k = 0; k < plant.places.length && fault == 0; k++) {
                    ofParts += sizeOf(plant.places[k], level + 1);
                }
                if (fault != 0) {
                    return 0;
                }
            }
            if (plant.kind == TOMATO || plant.kind == GRAFT) {
                begin(2);
                begin(1);
                return ofParts + 2 * plant.a + plant.b;
            }
            if (plant.kind == CRESS) {
                begin(4);
                begin(1);
                return plant.b == 0 ? faulted(ZERO) : plant.a / plant.b;
            }
            begin(1);
            return plant.a;
        }

        private int thirstOf(Thing plant) {
            if (plant.kind == VALVE) {
                begin(12);
                return plant.b;
            }
            boolean twice = plant.kind != CRESS;
            if (twice) {
                begin(11);
            }
            begin(10);
            int lent = 3 + sizeOf(plant, 0);
            return twice ? 2 * lent : lent;
        }

        /** What body 20 gives; that of a CRESS has its thirst to come. */
        private int costAlone(Thing plant) {
            if (plant.kind == CRESS) {
                begin(21);
            }
            begin(20);
            return plant.a == 0 ? faulted(ZERO) : 5000 / plant.a;
        }

        private int markOf(Thing plant) {
            if (plant.kind != GRAFT) {
                begin(30);
                return 7;
            }
            begin(31);
            return 9 + plant.b;
        }
    }

    /** The steps of the plans, and where the bodies of a well formed one end. */
    private static final class Plans {
        static final int MANY = 4, MOST_STEPS = 40;
        static final int END = 0, ADD = 1, OVER = 2, LAY = 3, READ = 4, WRITE = 5, ASK = 6, FAIL = 7, ANSWER = 8,
                WAKE = 9, DO = 10, HOLD = 11, TAKE = 12, OPEN = 13, KEEP = 14, AGAIN = 15, TRY = 16, CATCH = 17,
                LAST = 18, IF = 19, LOOP = 20;

        private final int[] lengths = new int[MANY];
        private final int[] ops = new int[MANY * MOST_STEPS];
        private final int[] as = new int[MANY * MOST_STEPS];
        private final int[] bs = new int[MANY * MOST_STEPS];
        private final int[] cs = new int[MANY * MOST_STEPS];
        private final int[] ends = new int[MANY * MOST_STEPS];
        private final int[] opens = new int[MOST_STEPS];

        int added(int plan, int op, int a, int b, int c) {
            int place = lengths[plan];
            if (place >= MOST_STEPS) {
                return FULL;
            }
            int at = plan * MOST_STEPS + place;
            ops[at] = op;
            as[at] = a;
            bs[at] = b;
            cs[at] = c;
            lengths[plan] = place + 1;
            return place;
        }

        int emptied(int plan) {
            int had = lengths[plan];
            lengths[plan] = 0;
            return had;
        }

        int stepsInAll() {
            int sum = 0;
            for (int plan = 0; plan < MANY; plan++) {
                sum += lengths[plan];
            }
            return sum;
        }

        int lengthOf(int plan) {
            return lengths[plan];
        }

        private boolean isPlace(int plan, int place) {
            return plan >= 0 && plan < MANY && place >= 0 && place < lengths[plan];
        }

        int opAt(int plan, int place) {
            return isPlace(plan, place) ? ops[plan * MOST_STEPS + place] : END;
        }

        int aAt(int plan, int place) {
            return isPlace(plan, place) ? as[plan * MOST_STEPS + place] : 0;
        }

        int bAt(int plan, int place) {
            return isPlace(plan, place) ? bs[plan * MOST_STEPS + place] : 0;
        }

        int cAt(int plan, int place) {
            return isPlace(plan, place) ? cs[plan * MOST_STEPS + place] : 0;
        }

        /** Where the body of a step ends, once firstWrong() has gone over its plan. */
        int endAt(int plan, int place) {
            return isPlace(plan, place) ? ends[plan * MOST_STEPS + place] : 0;
        }

        /** The first step that may not stand where it does, how many if an end lacks, or NONE. */
        int firstWrong(int plan) {
            int depth = 0;
            boolean behindTry = false;
            for (int place = 0; place < lengths[plan]; place++) {
                int op = ops[plan * MOST_STEPS + place];
                if ((op == CATCH || op == LAST) && !behindTry) {
                    return place;
                }
                behindTry = false;
                if (op == END) {
                    if (depth == 0) {
                        return place;
                    }
                    depth--;
                    int opener = plan * MOST_STEPS + opens[depth];
                    ends[opener] = place;
                    behindTry = ops[opener] == TRY || ops[opener] == CATCH;
                } else if (op >= HOLD) {
                    opens[depth] = place;
                    depth++;
                }
            }
            return depth == 0 ? NONE : lengths[plan];
        }
    }

    /** Stock and valves, and a book of what cells, cards and stock were, so that a fault can undo. */
    private static final class Stores {
        static final int STOCKS = 6, VALVES = 3;
        /** Each of 300 steps changes one thing as it begins and one behind its body. */
        private static final int MOST_CHANGES = 640;

        final long[] amounts = new long[STOCKS];
        final int[] valvePlaces = new int[VALVES];
        final int[] valveHolds = new int[VALVES];
        private final Thing[] owners = new Thing[MOST_CHANGES];
        private final int[] indexes = new int[MOST_CHANGES];
        private final long[] olds = new long[MOST_CHANGES];
        private int changes;

        void forgetChanges() {
            changes = 0;
        }

        int changesSoFar() {
            return changes;
        }

        void changeStock(int k, long amount) {
            if (k < 0 || k >= STOCKS) {
                return;
            }
            noteChange(null, k, amounts[k]);
            amounts[k] = amount;
        }

        void changeCell(Thing owner, int i, long bits) {
            if (owner == null || i < 0 || i >= owner.cells.length) {
                return;
            }
            noteChange(owner, i, owner.cells[i]);
            owner.cells[i] = bits;
        }

        private void noteChange(Thing owner, int index, long old) {
            if (changes < MOST_CHANGES) {
                owners[changes] = owner;
                indexes[changes] = index;
                olds[changes] = old;
                changes++;
            }
        }

        void undoTo(int mark) {
            for (int k = changes - 1; k >= mark && k >= 0; k--) {
                Thing owner = owners[k];
                int index = indexes[k];
                if (owner == null) {
                    if (index < STOCKS) {
                        amounts[index] = olds[k];
                    }
                } else if (index < owner.cells.length) {
                    owner.cells[index] = olds[k];
                }
            }
            changes = Math.max(0, Math.min(changes, mark));
        }

        int heldInAll() {
            int sum = 0;
            for (int v = 0; v < VALVES; v++) {
                sum += valveHolds[v];
            }
            return sum;
        }
    }

    /** A body that a run is in: of a step, of a plan that is done, of the run itself. */
    private static final class Frame {
        int op;
        int plan;
        /** The place of the step whose body this is. */
        int place;
        int next;
        int end;
        int a;
        int b;
        int c;
        /** Of TRY: 0 its body, 1 a CATCH's, 2 the LAST's. */
        int stage;
        int tries;
        /** How many changes there were ahead of the body. */
        int mark;
        /** The fault that a CATCH met. */
        int met;
        /** The way out that waits for a LAST. */
        final int[] waiting = new int[Runner.PARTS];
    }

    /** One run of a plan at a time; bodies stand on a pile of frames, so that no call nests with them. */
    private static final class Runner {
        /** The parts of a way out. */
        static final int WAY = 0, KIND = 1, NUMBER = 2, PLACE = 3, CAUSE = 4, TOLD = 5, PARTS = 6;
        private static final int ON = 0, FAULT = 1, ANSWERED = 2, SPENT = 3;
        private static final int WHOLE = 21, MOST_FRAMES = 160, MOST_STEPS = 300, MOST_DOS = 6;

        final Thing[] bins = new Thing[BINS];
        final Asker asker = new Asker();
        final Plans plans = new Plans();
        final Stores stores = new Stores();
        private final Frame[] frames = new Frame[MOST_FRAMES];
        private final int[] out = new int[PARTS];
        private int depth;
        /** The place of the step that began latest, in the plan of its frame. */
        private int at;
        private int dos;
        private int steps;
        private int catches;
        private int lasts;
        private int heldMost;
        private int arisen;

        int wholeRun(int plan) {
            stores.forgetChanges();
            dos = 0;
            steps = 0;
            catches = 0;
            lasts = 0;
            heldMost = 0;
            arisen = 0;
            depth = 0;
            for (int k = 0; k < PARTS; k++) {
                out[k] = 0;
            }
            enterPlan(WHOLE, plan);
            for (int turn = 0; turn < 1000000 && depth > 0; turn++) {
                Frame frame = top();
                if (frame == null) {
                    depth = 0;
                } else if (out[WAY] != ON || frame.next >= frame.end) {
                    leave(frame);
                } else if (stepBegins(frame)) {
                    perform(frame.plan, plans.opAt(frame.plan, at), plans.aAt(frame.plan, at));
                }
            }
            if (out[WAY] == SPENT) {
                return -30;
            }
            if (out[WAY] == ANSWERED) {
                return 1;
            }
            return out[WAY] == FAULT ? -10 - out[KIND] : 0;
        }

        int faultOut() {
            return out[WAY] == FAULT ? out[KIND] : 0;
        }

        int toldOf(int what) {
            boolean faulted = out[WAY] == FAULT;
            switch (what) {
                case 0:
                    return out[WAY] == ANSWERED ? out[TOLD] : 0;
                case 1:
                    return steps;
                case 2:
                    return faulted ? out[PLACE] : NONE;
                case 3:
                    return faulted ? out[CAUSE] : 0;
                case 4:
                    return catches;
                case 5:
                    return lasts;
                case 6:
                    return heldMost;
                case 7:
                    return faulted ? out[NUMBER] : 0;
                default:
                    return arisen;
            }
        }

        private Frame top() {
            return depth > 0 && depth <= MOST_FRAMES ? frames[depth - 1] : null;
        }

        private Frame newTop() {
            if (depth < 0 || depth >= MOST_FRAMES) {
                return null;
            }
            Frame made = frames[depth];
            if (made == null) {
                made = new Frame();
                frames[depth] = made;
            }
            depth++;
            made.stage = 0;
            made.tries = 1;
            made.met = 0;
            made.mark = stores.changesSoFar();
            return made;
        }

        private void enterPlan(int op, int plan) {
            Frame made = newTop();
            if (made == null) {
                return;
            }
            made.op = op;
            made.plan = plan;
            made.place = 0;
            made.next = 0;
            made.end = plans.lengthOf(plan);
        }

        private void enterBody(int op, int plan, int place) {
            Frame made = newTop();
            if (made == null) {
                return;
            }
            made.op = op;
            made.plan = plan;
            made.place = place;
            made.next = place + 1;
            made.end = plans.endAt(plan, place);
            made.a = plans.aAt(plan, place);
            made.b = plans.bAt(plan, place);
            made.c = plans.cAt(plan, place);
        }

        // ---- steps

        private boolean counted() {
            if (steps >= MOST_STEPS) {
                out[WAY] = SPENT;
                return false;
            }
            steps++;
            return true;
        }

        private void arise(int kind, int number) {
            arisen++;
            out[WAY] = FAULT;
            out[KIND] = kind;
            out[NUMBER] = number;
            out[PLACE] = at;
            out[CAUSE] = 0;
        }

        private boolean stepBegins(Frame frame) {
            at = frame.next;
            int op = plans.opAt(frame.plan, at);
            frame.next = op >= Plans.HOLD ? plans.endAt(frame.plan, at) + 1 : at + 1;
            // A CATCH or a LAST that is come to on the way belongs to a TRY that is over.
            return op != Plans.CATCH && op != Plans.LAST && op != Plans.END && counted();
        }

        private static boolean firstNumberFits(int op, int a) {
            switch (op) {
                case Plans.ADD:
                case Plans.OVER:
                case Plans.TAKE:
                case Plans.IF:
                case Plans.LOOP:
                    return isStock(a);
                case Plans.LAY:
                case Plans.READ:
                case Plans.WRITE:
                case Plans.ASK:
                    return isBin(a);
                case Plans.WAKE:
                case Plans.HOLD:
                case Plans.OPEN:
                    return isValve(a);
                case Plans.DO:
                    return isPlan(a);
                default:
                    return true;
            }
        }

        private void perform(int plan, int op, int a) {
            if (!firstNumberFits(op, a)) {
                arise(INDEX, 0);
                return;
            }
            int b = plans.bAt(plan, at);
            int c = plans.cAt(plan, at);
            switch (op) {
                case Plans.ADD:
                    stores.changeStock(a, stores.amounts[a] + b);
                    break;
                case Plans.OVER:
                    divideStock(a, b);
                    break;
                case Plans.LAY:
                    layCell(a, b, c);
                    break;
                case Plans.READ:
                    readCell(a, b, c);
                    break;
                case Plans.WRITE:
                    writeCard(a, b);
                    break;
                case Plans.ASK:
                    askPlant(a, b, c);
                    break;
                case Plans.FAIL:
                    arise(OWN, a);
                    break;
                case Plans.ANSWER:
                    out[WAY] = ANSWERED;
                    out[TOLD] = a;
                    break;
                case Plans.WAKE:
                    if (stores.valveHolds[a] == 0) {
                        arise(STATE, 0);
                    }
                    break;
                case Plans.DO:
                    doPlan(a);
                    break;
                default:
                    beginBody(plan, op, a, b);
                    break;
            }
        }

        private void divideStock(int a, int b) {
            if (b == 0) {
                arise(ZERO, 0);
            } else {
                stores.changeStock(a, stores.amounts[a] / b);
            }
        }

        private void layCell(int bin, int i, int v) {
            int wrong = cellFault(bins[bin], INTS, i);
            if (wrong != 0) {
                arise(wrong, 0);
            } else {
                stores.changeCell(bins[bin], i, v);
            }
        }

        private void readCell(int bin, int i, int k) {
            Thing held = bins[bin];
            int wrong = isStock(k) ? cellFault(held, INTS, i) : INDEX;
            if (wrong != 0 || held == null) {
                arise(wrong, 0);
            } else {
                stores.changeStock(k, held.cells[i]);
            }
        }

        private void writeCard(int bin, int v) {
            int wrong = takenFault(bins[bin], CARD);
            if (wrong != 0) {
                arise(wrong, 0);
            } else {
                stores.changeCell(bins[bin], INTS, v);
            }
        }

        private void askPlant(int bin, int what, int k) {
            if (what < 0 || what > 3 || !isStock(k)) {
                arise(INDEX, 0);
                return;
            }
            asker.beginAsk();
            int told = asker.tell(bins[bin], what);
            if (asker.fault != 0) {
                arise(asker.fault, 0);
            } else {
                stores.changeStock(k, told);
            }
        }

        private void doPlan(int plan) {
            if (plans.firstWrong(plan) != NONE) {
                arise(OWN, 98);
            } else if (dos >= MOST_DOS) {
                arise(OWN, 99);
            } else {
                dos++;
                enterPlan(Plans.DO, plan);
            }
        }

        private void beginBody(int plan, int op, int a, int b) {
            if (op == Plans.TAKE && (b < 0 || stores.amounts[a] < b)) {
                arise(OWN, 97);
                return;
            }
            if (op == Plans.AGAIN && (a < 1 || a > 9)) {
                arise(OWN, 96);
                return;
            }
            if ((op == Plans.IF || op == Plans.LOOP) && stores.amounts[a] <= 0) {
                return;
            }
            enterBody(op, plan, at);
            if (op == Plans.HOLD) {
                stores.valveHolds[a]++;
                heldMost = Math.max(heldMost, stores.heldInAll());
            } else if (op == Plans.TAKE) {
                stores.changeStock(a, stores.amounts[a] - b);
            } else if (op == Plans.OPEN) {
                stores.valvePlaces[a] = b;
            }
        }

        // ---- ways out of bodies

        /** The body of the frame is over, on whatever way: what it took goes back. */
        private void leave(Frame frame) {
            int a = frame.a;
            switch (frame.op) {
                case WHOLE:
                case Plans.KEEP:
                    undoFaulted(frame);
                    break;
                case Plans.DO:
                    dos--;
                    break;
                case Plans.HOLD:
                    stores.valveHolds[a]--;
                    break;
                case Plans.TAKE:
                    stores.changeStock(a, stores.amounts[a] + frame.b);
                    break;
                case Plans.OPEN:
                    stores.valvePlaces[a] = frame.c;
                    break;
                case Plans.AGAIN:
                    if (goesAgain(frame)) {
                        return;
                    }
                    break;
                case Plans.TRY:
                    if (goesOnTrying(frame)) {
                        return;
                    }
                    break;
                default:
                    break;
            }
            depth--;
            if (frame.op == Plans.LOOP && out[WAY] == ON) {
                lookAgain(frame.place);
            }
        }

        private void undoFaulted(Frame frame) {
            if (out[WAY] == FAULT) {
                stores.undoTo(frame.mark);
            }
        }

        private void lookAgain(int place) {
            Frame outer = top();
            if (outer != null) {
                outer.next = place;
            }
        }

        private boolean goesAgain(Frame frame) {
            undoFaulted(frame);
            if (out[WAY] != FAULT || frame.tries >= frame.a || !counted()) {
                return false;
            }
            frame.tries++;
            frame.next = frame.place + 1;
            out[WAY] = ON;
            return true;
        }

        private boolean goesOnTrying(Frame frame) {
            if (out[WAY] == SPENT) {
                return false;
            }
            if (frame.stage == 2) {
                settleLast(frame);
                return false;
            }
            if (frame.stage == 0 && out[WAY] == FAULT && meets(frame)) {
                return true;
            }
            if (frame.stage == 1 && out[WAY] == FAULT) {
                out[CAUSE] = frame.met;
            }
            return entersLast(frame);
        }

        private boolean meets(Frame frame) {
            int place = plans.endAt(frame.plan, frame.place) + 1;
            for (int k = 0; k < Plans.MOST_STEPS && plans.opAt(frame.plan, place) == Plans.CATCH; k++) {
                int kind = plans.aAt(frame.plan, place);
                if (kind == 0 || kind == out[KIND]) {
                    catches++;
                    frame.met = out[KIND];
                    enterPart(frame, place, 1);
                    return true;
                }
                place = plans.endAt(frame.plan, place) + 1;
            }
            return false;
        }

        private void enterPart(Frame frame, int place, int stage) {
            frame.stage = stage;
            frame.next = place + 1;
            frame.end = plans.endAt(frame.plan, place);
            out[WAY] = ON;
        }

        private boolean entersLast(Frame frame) {
            int place = plans.endAt(frame.plan, frame.place) + 1;
            for (int k = 0; k < Plans.MOST_STEPS && plans.opAt(frame.plan, place) == Plans.CATCH; k++) {
                place = plans.endAt(frame.plan, place) + 1;
            }
            if (plans.opAt(frame.plan, place) != Plans.LAST) {
                return false;
            }
            lasts++;
            for (int k = 0; k < PARTS; k++) {
                frame.waiting[k] = out[k];
            }
            enterPart(frame, place, 2);
            return true;
        }

        private void settleLast(Frame frame) {
            if (out[WAY] == ON) {
                for (int k = 0; k < PARTS; k++) {
                    out[k] = frame.waiting[k];
                }
            } else if (out[WAY] == FAULT && frame.waiting[WAY] == FAULT) {
                out[CAUSE] = frame.waiting[KIND];
            }
        }
    }

    /** Tables of lines, laid at their first use. */
    private static final class Tables {
        static final int MANY = 3, MOST_LINES = 8, MOST = 1000000;

        private final int[][] xs = new int[MANY][MOST_LINES];
        private final int[][] ys = new int[MANY][MOST_LINES];
        private final int[] lines = new int[MANY];
        /** The table that this one rests on, and 1; 0 for none. */
        private final int[] under = new int[MANY];
        private final int[] offsets = new int[MANY];
        private final boolean[] begun = new boolean[MANY];
        private final boolean[] finished = new boolean[MANY];
        private final int[] order = new int[MANY];
        int laidMany;

        int lineAdded(int table, int x, int y) {
            int many = lines[table];
            if (x < -MOST || x > MOST || y < -MOST || y > MOST || (many > 0 && x <= xs[table][many - 1])) {
                return BAD;
            }
            if (many >= MOST_LINES) {
                return FULL;
            }
            xs[table][many] = x;
            ys[table][many] = y;
            lines[table] = many + 1;
            return many + 1;
        }

        int rested(int table, int on) {
            if (finished[table]) {
                return NO;
            }
            under[table] = on + 1;
            return 1;
        }

        boolean hasLines(int table) {
            return lines[table] > 0;
        }

        int laidAt(int k) {
            return k >= 0 && k < laidMany && k < MANY ? order[k] : NONE;
        }

        int valueAt(int table, int x) {
            if (!begun[table]) {
                layDown(table, 0);
            }
            return offsets[table] + lineAt(table, x);
        }

        private void layDown(int table, int level) {
            begun[table] = true;
            int on = under[table] - 1;
            if (on >= 0 && on < MANY) {
                if (!begun[on] && level < MANY) {
                    layDown(on, level + 1);
                }
                offsets[table] = 1 + (finished[on] ? offsets[on] : 0);
            }
            finished[table] = true;
            if (laidMany < MANY) {
                order[laidMany] = table;
                laidMany++;
            }
        }

        private int lineAt(int table, int x) {
            int many = lines[table];
            if (many == 0) {
                return 0;
            }
            if (x >= xs[table][many - 1]) {
                return ys[table][many - 1];
            }
            int behind = 0;
            while (behind < many - 1 && xs[table][behind] <= x) {
                behind++;
            }
            if (behind == 0) {
                return ys[table][0];
            }
            int at = behind - 1;
            long rise = (long) ys[table][behind] - ys[table][at];
            long width = (long) xs[table][behind] - xs[table][at];
            if (width <= 0) {
                return ys[table][at];
            }
            return (int) (ys[table][at] + Math.floorDiv(rise * ((long) x - xs[table][at]), width));
        }
    }

    /** Probes, votes, marks and the air of the houses, by the minute. */
    private static final class Houses {
        static final int MANY = 3, PROBES = 9;
        private static final int MOST_MARKS = 6, DAY = 1440;
        /** What is told of a probe. */
        private static final int IN = 0, WHY = 1, OFF = 2, NEAR = 3, SAME = 4;
        /** What is told of a house's air. */
        private static final int WARMTH = 0, VAPOUR = 1, DEW = 2, VENT = 3, PIPE = 4, REST = 5, CAME_IN = 6,
                LOST = 7, WET = 8, GONE = 9, BOUND = 10;
        private static final int SUN = 0, OUTER_WARMTH = 1, OUTER_VAPOUR = 2, STORM = 3, RAIN = 4;
        private static final int[] LEAST = {0, -40000, 0, 0, 0};
        private static final int[] MOST = {1000, 60000, 40000, 1, 1};

        final Tables tables = new Tables();
        final int[][] probes = new int[PROBES][5];
        private final long[] readings = new long[PROBES];
        private final double[] reals = new double[PROBES];
        private final long[] before = new long[PROBES];
        final long[] values = new long[MANY];
        private final long[] ordered = new long[PROBES];
        double part = 2.0;
        final long[][] airs = new long[MANY][11];
        private final int[] outside = {0, 10000, 5000, 0, 0};
        private final int[][] markMinutes = new int[MANY][MOST_MARKS];
        private final int[][] markWishes = new int[MANY][MOST_MARKS];
        private final int[] marks = new int[MANY];
        int minuteNow;

        Houses() {
            for (int p = 0; p < PROBES; p++) {
                readings[p] = NO_NUMBER;
                probes[p][IN] = 1;
            }
            for (int house = 0; house < MANY; house++) {
                values[house] = NO_NUMBER;
                airs[house][WARMTH] = 20000;
                airs[house][VAPOUR] = 8000;
            }
        }

        void takeReading(int p, long bits) {
            readings[p] = bits;
            reals[p] = isNumber(bits) ? realOf(bits) : 0.0;
        }

        int newWeather(int what, int v) {
            if (what < SUN || what > RAIN || v < LEAST[what] || v > MOST[what]) {
                return -100000;
            }
            int was = outside[what];
            outside[what] = v;
            return was;
        }

        void passMinute() {
            minuteNow++;
            for (int house = 0; house < MANY; house++) {
                vote(house);
                steer(house);
                changeAir(house);
            }
        }

        // ---- marks and wishes

        int markAdded(int house, int minute, int wish) {
            int many = marks[house];
            if (minute < 0 || minute >= DAY || wish < -50000 || wish > 60000) {
                return BAD;
            }
            if (many > 0 && minute <= markMinutes[house][many - 1]) {
                return BAD;
            }
            if (many >= MOST_MARKS) {
                return FULL;
            }
            markMinutes[house][many] = minute;
            markWishes[house][many] = wish;
            marks[house] = many + 1;
            return many + 1;
        }

        int marksGone(int house) {
            int had = marks[house];
            marks[house] = 0;
            return had;
        }

        boolean hasWish(int house) {
            return marks[house] > 0;
        }

        int wishAt(int house, int minute) {
            int many = marks[house];
            if (many < 1) {
                return 0;
            }
            int behind = 0;
            while (behind < many && markMinutes[house][behind] <= minute) {
                behind++;
            }
            int at = behind == 0 ? many - 1 : behind - 1;
            int next = behind == many ? 0 : behind;
            int start = markMinutes[house][at] - (behind == 0 ? DAY : 0);
            int end = markMinutes[house][next] + (behind == many ? DAY : 0);
            if (end <= start) {
                return markWishes[house][at];
            }
            long rise = (long) markWishes[house][next] - markWishes[house][at];
            return (int) (markWishes[house][at] + Math.floorDiv(rise * (minute - start), (long) (end - start)));
        }

        // ---- votes

        private void vote(int house) {
            boolean anyChanged = countSame(house);
            values[house] = middleOf(house);
            boolean judged = isNumber(values[house]) && manyReading(house) >= 3;
            double middle = valueReal(house);
            for (int p = house; p < PROBES; p += MANY) {
                countOff(p, judged && isNumber(readings[p]), values[house], middle);
                judge(p, anyChanged);
            }
        }

        /** Tells whether some probe of the house has other bits than in the minute before. */
        private boolean countSame(int house) {
            boolean anyChanged = false;
            for (int p = house; p < PROBES; p += MANY) {
                boolean first = probes[p][SAME] == 0;
                boolean alike = !first && readings[p] == before[p];
                anyChanged = anyChanged || (!first && !alike);
                probes[p][SAME] = alike ? probes[p][SAME] + 1 : 1;
                before[p] = readings[p];
            }
            return anyChanged;
        }

        private int manyReading(int house) {
            int many = 0;
            for (int p = house; p < PROBES; p += MANY) {
                if (isNumber(readings[p])) {
                    many++;
                }
            }
            return many;
        }

        private long middleOf(int house) {
            int many = 0;
            for (int p = house; p < PROBES; p += MANY) {
                if (probes[p][IN] == 1 && isNumber(readings[p]) && many < PROBES) {
                    ordered[many] = readings[p];
                    many++;
                }
            }
            if (many == 0) {
                return NO_NUMBER;
            }
            sortByOrder(ordered, many);
            return ordered[(many - 1) / 2];
        }

        /** The value of a house is the reading of one of its probes, whose real is worked already. */
        private double valueReal(int house) {
            for (int p = house; p < PROBES; p += MANY) {
                if (readings[p] == values[house]) {
                    return reals[p];
                }
            }
            return 0.0;
        }

        private void countOff(int p, boolean judged, long value, double middle) {
            if (!judged) {
                probes[p][OFF] = 0;
                probes[p][NEAR] = 0;
                return;
            }
            // Two alike are looked at first: the machine has no number for endless less endless.
            double apart = readings[p] == value ? 0.0 : reals[p] - middle;
            boolean off = (apart < 0 ? -apart : apart) > part;
            probes[p][OFF] = off ? probes[p][OFF] + 1 : 0;
            probes[p][NEAR] = off ? 0 : probes[p][NEAR] + 1;
        }

        private void judge(int p, boolean anyChanged) {
            boolean in = probes[p][IN] == 1;
            // One that has been the same for eight minutes is not the one that changed.
            if (isNumber(readings[p]) && probes[p][SAME] >= 8 && anyChanged) {
                sendTo(p, 0, 2);
            } else if (in && probes[p][OFF] >= 3) {
                sendTo(p, 0, 1);
            } else if (!in && probes[p][NEAR] >= 5) {
                sendTo(p, 1, 0);
            }
        }

        private void sendTo(int p, int in, int why) {
            probes[p][IN] = in;
            probes[p][WHY] = why;
            probes[p][OFF] = 0;
            probes[p][NEAR] = 0;
        }

        // ---- vents, pipes and air

        private static long bounded(long v, long least, long most) {
            return Math.max(least, Math.min(most, v));
        }

        private static long towards(long from, long goal) {
            return from + bounded(goal - from, -10, 10);
        }

        private void steer(int house) {
            long[] air = airs[house];
            long vent = air[VENT];
            if (outside[STORM] == 1) {
                air[VENT] = towards(vent, 0);
                return;
            }
            if (!isNumber(values[house]) || !hasWish(house)) {
                air[VENT] = towards(vent, 10);
                air[PIPE] = towards(air[PIPE], 30);
            } else {
                moveBy(house, wantedMove(house));
            }
            if (outside[RAIN] == 1 && air[VENT] > 20) {
                air[VENT] = Math.max(20, vent - 10);
            }
        }

        private long wantedMove(int house) {
            long[] air = airs[house];
            long v = bounded((long) (valueReal(house) * 1000.0), -1000000000L, 1000000000L);
            long d = bounded(v - wishAt(house, minuteNow % DAY), -100000, 100000);
            air[REST] = bounded(air[REST] + d / 16, -4000, 4000);
            return bounded(d / 400 + air[REST] / 500, -10, 10);
        }

        private void moveBy(int house, long move) {
            int first = move > 0 ? PIPE : VENT;
            int second = move > 0 ? VENT : PIPE;
            long left = Math.abs(move);
            long closed = Math.min(left, airs[house][first]);
            airs[house][first] -= closed;
            airs[house][second] = Math.min(100, airs[house][second] + left - closed);
        }

        private void changeAir(int house) {
            long[] air = airs[house];
            long in = outside[SUN] / 8 + 5 * air[PIPE];
            long lost = (air[WARMTH] - outside[OUTER_WARMTH]) * (2 + air[VENT]) / 200;
            air[WARMTH] += in - lost;
            air[CAME_IN] += in;
            air[LOST] += lost;
            long wet = 12 + outside[SUN] / 50;
            long gone = (air[VAPOUR] - outside[OUTER_VAPOUR]) * air[VENT] / 80;
            long vapour = air[VAPOUR] + wet - gone;
            air[WET] += wet;
            air[GONE] += gone;
            if (vapour < 0) {
                air[BOUND] -= vapour;
                vapour = 0;
            }
            long most = mostVapour(air[WARMTH]);
            air[DEW] += Math.max(0, vapour - most);
            air[VAPOUR] = Math.min(vapour, most);
        }

        private long mostVapour(long warmth) {
            if (!tables.hasLines(0)) {
                return 9000;
            }
            return Math.max(0, tables.valueAt(0, (int) (warmth / 1000)));
        }
    }

    /** Salts, the wish and the water, and what was worked of them in exact fractions. */
    private static final class Feeds {
        private static final int ROWS = 3, SALTS = 4, WISH = 4, WATER = 5, RIGHT = 4, COLUMNS = 8;

        private final int[][] contents = new int[6][ROWS];
        /** Three rows: the salts' columns, the right side, and how the row was made of the rows as they were. */
        private final long[][] upper = new long[ROWS][COLUMNS];
        private final long[][] lower = new long[ROWS][COLUMNS];
        private final int[] pivots = new int[ROWS];
        private final long[] fractionUpper = new long[SALTS];
        private final long[] fractionLower = new long[SALTS];
        private final long[] witness = new long[ROWS];
        private int rank;

        int becomes(int salt, int j, int v) {
            int was = contents[salt][j];
            contents[salt][j] = v;
            return was;
        }

        long outcome(int what, int k) {
            switch (what) {
                case 0:
                    return k >= 0 && k < SALTS ? fractionUpper[k] : 0;
                case 1:
                    return k >= 0 && k < SALTS ? fractionLower[k] : 0;
                case 2:
                    return k >= 0 && k < ROWS ? witness[k] : 0;
                case 3:
                    return rank;
                default:
                    return 0;
            }
        }

        int solved() {
            clearOutcome();
            fillRows();
            for (int column = 0; column < SALTS; column++) {
                workColumn(column);
            }
            for (int r = rank; r < ROWS; r++) {
                if (upper[r][RIGHT] != 0) {
                    tellWitness(r);
                    return 0;
                }
            }
            return tellFractions() ? 1 : 2;
        }

        private void clearOutcome() {
            rank = 0;
            for (int k = 0; k < SALTS; k++) {
                fractionUpper[k] = 0;
                fractionLower[k] = 0;
            }
            for (int k = 0; k < ROWS; k++) {
                witness[k] = 0;
            }
        }

        private void fillRows() {
            for (int j = 0; j < ROWS; j++) {
                for (int column = 0; column < COLUMNS; column++) {
                    upper[j][column] = column < SALTS ? contents[column][j] : column == RIGHT + 1 + j ? 1 : 0;
                    lower[j][column] = 1;
                }
                upper[j][RIGHT] = contents[WISH][j] - contents[WATER][j];
            }
        }

        private void workColumn(int column) {
            int found = rank;
            while (found < ROWS && upper[found][column] == 0) {
                found++;
            }
            if (found >= ROWS) {
                return;
            }
            changePlaces(found, rank);
            divideRow(rank, upper[rank][column], lower[rank][column]);
            for (int r = 0; r < ROWS; r++) {
                if (r != rank) {
                    takeRow(r, rank, upper[r][column], lower[r][column]);
                }
            }
            pivots[rank] = column;
            rank++;
        }

        private void changePlaces(int one, int two) {
            for (int column = 0; column < COLUMNS; column++) {
                long kept = upper[one][column];
                upper[one][column] = upper[two][column];
                upper[two][column] = kept;
                kept = lower[one][column];
                lower[one][column] = lower[two][column];
                lower[two][column] = kept;
            }
        }

        private void divideRow(int r, long over, long under) {
            for (int column = 0; column < COLUMNS; column++) {
                becomesFraction(r, column, upper[r][column] * under, lower[r][column] * over);
            }
        }

        private void takeRow(int r, int from, long over, long under) {
            for (int column = 0; column < COLUMNS; column++) {
                long many = upper[from][column] * over;
                long by = lower[from][column] * under;
                long common = commonDivisor(many, by);
                if (common > 1) {
                    many /= common;
                    by /= common;
                }
                becomesFraction(r, column, upper[r][column] * by - many * lower[r][column], lower[r][column] * by);
            }
        }

        private void becomesFraction(int r, int column, long over, long under) {
            long common = commonDivisor(over, under);
            if (common == 0) {
                return;
            }
            long sign = under < 0 ? -common : common;
            upper[r][column] = over / sign;
            lower[r][column] = under / sign;
        }

        private static long commonDivisor(long one, long two) {
            long a = Math.abs(one);
            long b = Math.abs(two);
            // Each two turns halve the greater one, so 200 are more than longs can need.
            for (int turn = 0; turn < 200 && b != 0; turn++) {
                long rest = a % b;
                a = b;
                b = rest;
            }
            return a;
        }

        private boolean tellFractions() {
            for (int k = 0; k < SALTS; k++) {
                fractionLower[k] = 1;
            }
            boolean noneBelow = true;
            for (int r = 0; r < rank && r < ROWS; r++) {
                fractionUpper[pivots[r]] = upper[r][RIGHT];
                fractionLower[pivots[r]] = lower[r][RIGHT];
                noneBelow = noneBelow && upper[r][RIGHT] >= 0;
            }
            return noneBelow;
        }

        private void tellWitness(int r) {
            long multiple = 1;
            for (int k = 0; k < ROWS; k++) {
                long under = lower[r][RIGHT + 1 + k];
                long common = commonDivisor(multiple, under);
                multiple = common == 0 ? multiple : multiple / common * under;
            }
            long common = 0;
            for (int k = 0; k < ROWS; k++) {
                long under = lower[r][RIGHT + 1 + k];
                witness[k] = under == 0 ? 0 : upper[r][RIGHT + 1 + k] * (multiple / under);
                common = commonDivisor(common, witness[k]);
            }
            if (common == 0) {
                return;
            }
            long sign = firstSign() * common;
            for (int k = 0; k < ROWS && sign != 0; k++) {
                witness[k] /= sign;
            }
        }

        private int firstSign() {
            for (int k = 0; k < ROWS; k++) {
                if (witness[k] != 0) {
                    return witness[k] < 0 ? -1 : 1;
                }
            }
            return 1;
        }
    }

    /** Pests by stages, and the days. */
    private static final class Pests {
        static final int MANY = 2, STAGES = 4;
        static final long MOST = 1000000000L;

        final long[][] numbers = new long[MANY][STAGES];
        private final int[][] goOn = new int[MANY][STAGES];
        private final int[][] stay = new int[MANY][STAGES];
        private final int[][] youngOf = new int[MANY][STAGES];
        private final long[] ways = new long[3];
        private final long[] went = new long[3];
        private final long[] rests = new long[3];
        private final long[] sums = new long[STAGES];
        int days;
        int waiting;

        void setParts(int pest, int stage, int on, int stays, int young) {
            goOn[pest][stage] = on;
            stay[pest][stage] = stays;
            youngOf[pest][stage] = young;
        }

        void lessen(int pest) {
            for (int stage = 0; stage < STAGES; stage++) {
                numbers[pest][stage] /= 4;
            }
            waiting = 7;
        }

        void passDay() {
            for (int pest = 0; pest < MANY; pest++) {
                dayOf(pest);
            }
            days++;
            if (waiting > 0) {
                waiting--;
            }
        }

        private void dayOf(int pest) {
            sums[0] = numbers[pest][STAGES - 1] * youngOf[pest][STAGES - 1] / 100;
            for (int stage = 1; stage < STAGES; stage++) {
                sums[stage] = 0;
            }
            for (int stage = 0; stage < STAGES; stage++) {
                ways[0] = goOn[pest][stage];
                ways[1] = stay[pest][stage];
                ways[2] = 2000 - ways[0] - ways[1];
                shareOut(numbers[pest][stage], ways, 3, went, rests);
                if (stage + 1 < STAGES) {
                    sums[stage + 1] += went[0];
                }
                sums[stage] += went[1];
            }
            for (int stage = 0; stage < STAGES; stage++) {
                numbers[pest][stage] = Math.min(MOST, sums[stage]);
            }
        }
    }

    /** Pages of bytes, that may be torn where the power goes. */
    private static final class Books {
        static final int PAGES = 20, LENGTH = 64;
        private static final int MOST_CELLS_WRITTEN = 6, AT_LANE = 4, AT_MANY = 5, AT_CELLS = 12, AT_SUM = 60;
        private static final int MOST_NUMBER = 2147483647;

        final int[] bytes = new int[PAGES * LENGTH];
        private final int[] draft = new int[LENGTH];
        private final int[] readPages = new int[PAGES];
        int latest;
        int next;
        boolean dark;
        /** Bytes till the power goes; NONE where it stays. */
        private int left = NONE;

        static boolean isByte(int page, int i) {
            return page >= 0 && page < PAGES && i >= 0 && i < LENGTH;
        }

        static boolean writes(int form) {
            return form == BYTES || form == SHORTS || form == INTS || form == LONGS;
        }

        int powerSet(int n) {
            if (dark) {
                return NO;
            }
            left = n;
            return 1;
        }

        int written(int lane, long[] cells) {
            if (dark) {
                return NO;
            }
            if (cells.length > MOST_CELLS_WRITTEN || next >= PAGES || latest == MOST_NUMBER) {
                return FULL;
            }
            fillDraft(latest + 1, lane, cells);
            int most = left == NONE ? LENGTH : Math.min(left, LENGTH);
            for (int i = 0; i < most; i++) {
                bytes[next * LENGTH + i] = draft[i];
            }
            if (most > 0) {
                next++;
            }
            if (most < LENGTH) {
                dark = true;
                return NO;
            }
            if (left != NONE) {
                left -= LENGTH;
            }
            latest++;
            return latest;
        }

        private void fillDraft(int number, int lane, long[] cells) {
            for (int i = 0; i < LENGTH; i++) {
                draft[i] = 0;
            }
            putNumber(0, 4, number);
            draft[AT_LANE] = lane;
            draft[AT_MANY] = cells.length;
            for (int c = 0; c < cells.length && c < MOST_CELLS_WRITTEN; c++) {
                putNumber(AT_CELLS + 8 * c, 8, cells[c]);
            }
            putNumber(AT_SUM, 4, sumOf(draft, 0));
        }

        private void putNumber(int at, int many, long number) {
            for (int k = 0; k < many && at + k < LENGTH; k++) {
                draft[at + k] = (int) (number >> (8 * (many - 1 - k))) & 255;
            }
        }

        private static int sumOf(int[] from, int start) {
            int sum = 0;
            for (int i = 0; i < AT_SUM && start + i < from.length; i++) {
                sum = Integer.rotateLeft(sum ^ from[start + i], 11) * 0xC2B2AE35;
            }
            return sum;
        }

        private long numberAt(int page, int at, int many) {
            long number = 0;
            for (int k = 0; k < many && isByte(page, at + k); k++) {
                number = (number << 8) | bytes[page * LENGTH + at + k];
            }
            return number;
        }

        private int numberOf(int page) {
            return (int) numberAt(page, 0, 4);
        }

        private boolean allZero(int page, int from, int to) {
            for (int i = from; i < to; i++) {
                if (numberAt(page, i, 1) != 0) {
                    return false;
                }
            }
            return true;
        }

        private boolean isWhole(int page) {
            int lane = (int) numberAt(page, AT_LANE, 1);
            int many = (int) numberAt(page, AT_MANY, 1);
            if (numberOf(page) < 1 || !writes(lane) || many > MOST_CELLS_WRITTEN) {
                return false;
            }
            if (!allZero(page, AT_MANY + 1, AT_CELLS) || !allZero(page, AT_CELLS + 8 * many, AT_SUM)) {
                return false;
            }
            for (int c = 0; c < many; c++) {
                long cell = numberAt(page, AT_CELLS + 8 * c, 8);
                if (cell != cellOf(lane, cell)) {
                    return false;
                }
            }
            return (int) numberAt(page, AT_SUM, 4) == sumOf(bytes, page * LENGTH);
        }

        /** The least whole page with the number of a page, which is whole itself. */
        private int leastWith(int page) {
            for (int other = 0; other < page; other++) {
                if (numberOf(other) == numberOf(page) && isWhole(other)) {
                    return other;
                }
            }
            return page;
        }

        /** Puts the pages that are read into their order; how many they are. */
        int gatherRead() {
            int many = 0;
            for (int page = 0; page < PAGES; page++) {
                if (isWhole(page) && leastWith(page) == page) {
                    int at = many;
                    while (at > 0 && numberOf(readPages[at - 1]) > numberOf(page)) {
                        readPages[at] = readPages[at - 1];
                        at--;
                    }
                    readPages[at] = page;
                    many++;
                }
            }
            return many;
        }

        int opened() {
            left = NONE;
            dark = false;
            int many = gatherRead();
            latest = many == 0 ? 0 : numberOf(readPages[many - 1]);
            next = 0;
            for (int page = 0; page < PAGES; page++) {
                if (!allZero(page, 0, LENGTH)) {
                    next = page + 1;
                }
            }
            return many;
        }

        long readOf(int k, int what) {
            if (k < 0 || k >= gatherRead() || k >= PAGES) {
                return NONE;
            }
            int page = readPages[k];
            int many = (int) numberAt(page, AT_MANY, 1);
            switch (what) {
                case 0:
                    return page;
                case 1:
                    return numberOf(page);
                case 2:
                    return numberAt(page, AT_LANE, 1);
                case 3:
                    return many;
                default:
                    return what >= 10 && what < 10 + many ? numberAt(page, AT_CELLS + 8 * (what - 10), 8) : NONE;
            }
        }

        int clashes() {
            int many = 0;
            for (int page = 0; page < PAGES; page++) {
                if (isWhole(page) && !samePages(page, leastWith(page))) {
                    many++;
                }
            }
            return many;
        }

        private boolean samePages(int one, int two) {
            for (int i = 0; i < LENGTH; i++) {
                if (numberAt(one, i, 1) != numberAt(two, i, 1)) {
                    return false;
                }
            }
            return true;
        }
    }
}

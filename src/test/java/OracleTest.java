import java.lang.reflect.Method;
import java.math.BigInteger;
import java.nio.ByteBuffer;
import java.util.ArrayList;
import java.util.Arrays;
import java.util.HashMap;
import java.util.HashSet;
import java.util.List;
import java.util.Map;
import java.util.Random;
import java.util.Set;

/**
 * Random runs of calls, answered by the class and by a second telling of the document that lets the machine itself
 * throw: real arrays, real classes, real exceptions, nested calls for nested steps.
 */
public final class OracleTest {
    // ------------------------------------------------------------------ the second telling

    static final class Own extends RuntimeException {
        final int number;

        Own(int number) {
            this.number = number;
        }
    }

    static final class Fault extends RuntimeException {
        final int kind, number, place;
        int cause;

        Fault(int kind, int number, int place) {
            this.kind = kind;
            this.number = number;
            this.place = place;
        }
    }

    static final class Answer extends RuntimeException {
        final int told;

        Answer(int told) {
            this.told = told;
        }
    }

    static final class Spent extends RuntimeException {
    }

    static final class Malformed extends RuntimeException {
        final int place;

        Malformed(int place) {
            this.place = place;
        }
    }

    interface Thirsty {
        Oracle house();

        int size();

        default int thirst() {
            house().trace.add(10);
            return 3 + size();
        }
    }

    interface Costly {
        Oracle house();

        int a();

        default int cost() {
            house().trace.add(20);
            return 5000 / a();
        }
    }

    static class Item {
        final Oracle house;
        int number, a, b, kind, first, depth;

        Item(Oracle house) {
            this.house = house;
            int had = house.trace.size();
            first = mark();
            while (house.trace.size() > had) {
                house.trace.remove(house.trace.size() - 1);
            }
        }

        public Oracle house() {
            return house;
        }

        public int a() {
            return a;
        }

        public int size() {
            house.trace.add(1);
            return a;
        }

        int mark() {
            house.trace.add(30);
            return 7;
        }
    }

    static class Plant extends Item {
        Plant(Oracle house) {
            super(house);
        }
    }

    static class Herb extends Plant implements Costly {
        Herb(Oracle house) {
            super(house);
        }
    }

    static class Tomato extends Plant implements Costly, Thirsty {
        Tomato(Oracle house) {
            super(house);
        }

        public int size() {
            house.trace.add(2);
            return 2 * super.size() + b;
        }

        public int thirst() {
            house.trace.add(11);
            return 2 * Thirsty.super.thirst();
        }
    }

    static class Graft extends Tomato {
        Item p, q;

        Graft(Oracle house) {
            super(house);
        }

        public int size() {
            house.trace.add(3);
            return p.size() + q.size() + super.size();
        }

        int mark() {
            house.trace.add(31);
            return 9 + b;
        }
    }

    static class Cress extends Herb implements Thirsty {
        Cress(Oracle house) {
            super(house);
        }

        public int size() {
            house.trace.add(4);
            return super.size() / b;
        }

        public int cost() {
            house.trace.add(21);
            return super.cost() + thirst();
        }
    }

    static class Probe extends Item implements Costly {
        Probe(Oracle house) {
            super(house);
        }
    }

    static class Valve extends Item implements Thirsty {
        Valve(Oracle house) {
            super(house);
        }

        public int thirst() {
            house.trace.add(12);
            return b;
        }
    }

    static final class Card implements Cloneable {
        int number;
        boolean f0;
        byte f1;
        char f2;
        short f3;
        int f4;
        long f5;
        float f6;
        double f7;
        Card next;
        Item leaf;

        Card twin() {
            try {
                return (Card) clone();
            } catch (CloneNotSupportedException e) {
                throw new AssertionError(e);
            }
        }
    }

    static final Class<?>[] CLASSES = {boolean[].class, byte[].class, char[].class, short[].class, int[].class,
        long[].class, float[].class, double[].class, short[][].class, int[][].class, double[][].class, int[][][].class,
        Plant[].class, Tomato[].class, Herb[].class, Thirsty[].class, Item.class, Card.class};

    static int kindOf(RuntimeException e) {
        if (e instanceof NullPointerException) return 1;
        if (e instanceof IndexOutOfBoundsException) return 2;
        if (e instanceof NegativeArraySizeException) return 3;
        if (e instanceof ClassCastException) return 4;
        if (e instanceof ArrayStoreException) return 5;
        if (e instanceof ArithmeticException) return 6;
        if (e instanceof IllegalStateException) return 7;
        if (e instanceof Own) return 8;
        throw e;
    }

    public static final class Oracle {
        static final int NONE = -1, BAD = -2, NO = -3, FULL = -4;
        final List<Integer> trace = new ArrayList<>();
        final Object[] bins = new Object[16];
        int things, faults, latestFault, plants, cards, came, answer;

        static boolean bin(int b) {
            return 0 <= b && b <= 15;
        }

        static boolean in(int v, int least, int most) {
            return least <= v && v <= most;
        }

        int fail(RuntimeException e) {
            faults++;
            latestFault = kindOf(e);
            return -10 - latestFault;
        }

        boolean full() {
            return faults >= 3000 || things >= 4000;
        }

        static Object array(int form, int n) {
            return java.lang.reflect.Array.newInstance(CLASSES[form].getComponentType(), n);
        }

        static int formOf(Object x) {
            if (x == null) return NONE;
            if (x instanceof Item) return 16;
            for (int f = 0; f < 18; f++) if (CLASSES[f] == x.getClass()) return f;
            throw new AssertionError();
        }

        public int row(int b, int lane, int n) {
            if (!bin(b) || !in(lane, 0, 7) || n > 40) return BAD;
            if (full()) return FULL;
            try {
                bins[b] = array(lane, n);
                things++;
                return 1;
            } catch (NegativeArraySizeException e) {
                return fail(e);
            }
        }

        public int grid(int b, int form, int a, int n, boolean bare) {
            if (!bin(b) || !in(form, 8, 10) || a > 10 || n > 40) return BAD;
            if (full()) return FULL;
            try {
                Object made;
                if (bare) made = form == 8 ? new short[a][] : form == 9 ? new int[a][] : new double[a][];
                else made = form == 8 ? new short[a][n] : form == 9 ? new int[a][n] : new double[a][n];
                bins[b] = made;
                things += bare ? 1 : 1 + a;
                return 1;
            } catch (NegativeArraySizeException e) {
                return fail(e);
            }
        }

        public int storeys(int b, int n) {
            if (!bin(b) || n > 4) return BAD;
            if (full()) return FULL;
            try {
                bins[b] = new int[n][][];
                things++;
                return 1;
            } catch (NegativeArraySizeException e) {
                return fail(e);
            }
        }

        public int share(int b, int from) {
            if (!bin(b) || from != NONE && !bin(from)) return BAD;
            bins[b] = from == NONE ? null : bins[from];
            return 1;
        }

        public int form(int b) {
            return bin(b) ? formOf(bins[b]) : BAD;
        }

        public int is(int b, int form) {
            if (!bin(b) || !in(form, 0, 17)) return BAD;
            if (bins[b] instanceof Item && in(form, 12, 15)) {
                return CLASSES[form].getComponentType().isInstance(bins[b]) ? 1 : 0;
            }
            return formOf(bins[b]) == form ? 1 : 0;
        }

        static long cell(Object row, int lane, int i) {
            switch (lane) {
                case 0: return ((boolean[]) row)[i] ? 1 : 0;
                case 1: return ((byte[]) row)[i];
                case 2: return ((char[]) row)[i];
                case 3: return ((short[]) row)[i];
                case 4: return ((int[]) row)[i];
                case 5: return ((long[]) row)[i];
                case 6: return Float.floatToIntBits(((float[]) row)[i]);
                default: return Double.doubleToLongBits(((double[]) row)[i]);
            }
        }

        static void setCell(Object row, int lane, int i, long bits) {
            switch (lane) {
                case 0: ((boolean[]) row)[i] = (bits & 1) == 1; break;
                case 1: ((byte[]) row)[i] = (byte) bits; break;
                case 2: ((char[]) row)[i] = (char) bits; break;
                case 3: ((short[]) row)[i] = (short) bits; break;
                case 4: ((int[]) row)[i] = (int) bits; break;
                case 5: ((long[]) row)[i] = bits; break;
                case 6: ((float[]) row)[i] = Float.intBitsToFloat((int) bits); break;
                default: ((double[]) row)[i] = Double.longBitsToDouble(bits); break;
            }
        }

        public long get(int b, int lane, int i) {
            if (!bin(b) || !in(lane, 0, 7)) return 0;
            try {
                return cell(bins[b], lane, i);
            } catch (RuntimeException e) {
                fail(e);
                return 0;
            }
        }

        public int put(int b, int lane, int i, long bits) {
            if (!bin(b) || !in(lane, 0, 7)) return BAD;
            try {
                setCell(bins[b], lane, i, bits);
                return 1;
            } catch (RuntimeException e) {
                return fail(e);
            }
        }

        public long bed(int b, int form, int i, int j) {
            if (!bin(b) || !in(form, 8, 10)) return 0;
            try {
                return form == 8 ? ((short[][]) bins[b])[i][j] : form == 9 ? ((int[][]) bins[b])[i][j]
                    : Double.doubleToLongBits(((double[][]) bins[b])[i][j]);
            } catch (RuntimeException e) {
                fail(e);
                return 0;
            }
        }

        public int setBed(int b, int form, int i, int j, long bits) {
            if (!bin(b) || !in(form, 8, 10)) return BAD;
            try {
                if (form == 8) ((short[][]) bins[b])[i][j] = (short) bits;
                else if (form == 9) ((int[][]) bins[b])[i][j] = (int) bits;
                else ((double[][]) bins[b])[i][j] = Double.longBitsToDouble(bits);
                return 1;
            } catch (RuntimeException e) {
                return fail(e);
            }
        }

        public int countUp(int b, int s, int i, int j, boolean after) {
            if (!bin(b)) return 0;
            try {
                int[][][] all = (int[][][]) bins[b];
                return after ? ++all[s][i][j] : all[s][i][j]++;
            } catch (RuntimeException e) {
                fail(e);
                return 0;
            }
        }

        public int set(int b, int i, int from) {
            if (!bin(b) || !bin(from)) return BAD;
            try {
                ((Object[]) bins[b])[i] = bins[from];
                return 1;
            } catch (RuntimeException e) {
                return fail(e);
            }
        }

        public int lift(int b, int from, int i) {
            if (!bin(b) || !bin(from)) return BAD;
            try {
                bins[b] = ((Object[]) bins[from])[i];
                return 1;
            } catch (RuntimeException e) {
                return fail(e);
            }
        }

        public int liftAs(int b, int from, int i, int form) {
            if (!bin(b) || !bin(from) || !in(form, 0, 17)) return BAD;
            try {
                bins[b] = CLASSES[form].cast(((Object[]) bins[from])[i]);
                return 1;
            } catch (RuntimeException e) {
                return fail(e);
            }
        }

        public int shift(int b, int i, int other, int j, int n) {
            if (!bin(b) || !bin(other)) return BAD;
            Object[] ahead = bins[b] instanceof Object[] ? ((Object[]) bins[b]).clone() : null;
            came = 0;
            try {
                System.arraycopy(bins[b], i, bins[other], j, n);
                came = n;
                return n;
            } catch (ArrayStoreException e) {
                if (ahead != null && bins[other] instanceof Object[]) {
                    Class<?> takes = bins[other].getClass().getComponentType();
                    while (i >= 0 && i + came < ahead.length
                        && (ahead[i + came] == null || takes.isInstance(ahead[i + came]))) came++;
                }
                return fail(e);
            } catch (RuntimeException e) {
                return fail(e);
            }
        }

        public int came() {
            return came;
        }

        Object twin(Object x, boolean deep) {
            if (x == null || x instanceof Item) return x;
            things++;
            if (x instanceof Card) {
                Card c = ((Card) x).twin();
                c.number = cards++;
                return c;
            }
            if (!(x instanceof Object[])) {
                int n = java.lang.reflect.Array.getLength(x);
                Object made = array(formOf(x), n);
                System.arraycopy(x, 0, made, 0, n);
                return made;
            }
            Object[] made = ((Object[]) x).clone();
            if (deep) for (int k = 0; k < made.length; k++) made[k] = twin(made[k], true);
            return made;
        }

        public int copy(int b, int from, boolean deep) {
            if (!bin(b) || !bin(from)) return BAD;
            if (full()) return FULL;
            bins[b] = twin(bins[from], deep);
            return 1;
        }

        public int alike(int b, int other) {
            if (!bin(b) || !bin(other)) return BAD;
            Object x = bins[b], y = bins[other];
            if (x == y) return 2;
            if (x == null || y == null || x.getClass() != y.getClass()) return 0;
            if (x instanceof Card) {
                Card c = (Card) x, d = (Card) y;
                for (int l = 0; l < 8; l++) if (fieldOf(c, l) != fieldOf(d, l)) return 0;
                return c.next == d.next && c.leaf == d.leaf ? 1 : 0;
            }
            return Arrays.deepEquals(new Object[] {x}, new Object[] {y}) ? 1 : 0;
        }

        public int size(int b, int what) {
            if (!bin(b) || !in(what, 0, 1)) return BAD;
            if (bins[b] instanceof Item || bins[b] instanceof Card) return fail(new ClassCastException());
            if (bins[b] == null) return fail(new NullPointerException());
            if (what == 0) return java.lang.reflect.Array.getLength(bins[b]);
            if (!(bins[b] instanceof Object[])) return 0;
            int many = 0;
            for (Object o : (Object[]) bins[b]) if (o == null) many++;
            return many;
        }

        // ---- 2

        public int plant(int b, int kind, int a, int bb, int p, int q) {
            if (!bin(b) || !in(kind, 0, 5) || kind == 2 && (!bin(p) || !bin(q))) return BAD;
            if (full()) return FULL;
            Item made;
            switch (kind) {
                case 0: made = new Herb(this); break;
                case 1: made = new Tomato(this); break;
                case 2:
                    Graft g = new Graft(this);
                    try {
                        g.p = (Item) bins[p];
                        g.q = (Item) bins[q];
                    } catch (ClassCastException e) {
                        return fail(e);
                    }
                    g.depth = 1 + Math.max(g.p == null ? 0 : g.p.depth, g.q == null ? 0 : g.q.depth);
                    if (g.depth > 4) return FULL;
                    made = g;
                    break;
                case 3: made = new Cress(this); break;
                case 4: made = new Probe(this); break;
                default: made = new Valve(this); break;
            }
            things++;
            made.kind = kind;
            made.a = a;
            made.b = bb;
            made.number = plants++;
            bins[b] = made;
            return made.number;
        }

        public int tray(int b, int form, int n) {
            if (!bin(b) || !in(form, 12, 15) || n > 8) return BAD;
            if (full()) return FULL;
            try {
                bins[b] = array(form, n);
                things++;
                return 1;
            } catch (NegativeArraySizeException e) {
                return fail(e);
            }
        }

        int asked(Object x, int what) {
            trace.clear();
            Item it = (Item) x;
            switch (what) {
                case 0: return it.size();
                case 1: return ((Thirsty) x).thirst();
                case 2: return ((Costly) x).cost();
                case 3: return it.mark();
                case 4: return it.first;
                case 5: return it.number;
                case 6: return it.kind;
                default: return it.depth;
            }
        }

        public int ask(int b, int what) {
            if (!bin(b) || !in(what, 0, 7)) return BAD;
            try {
                answer = asked(bins[b], what);
                return 1;
            } catch (RuntimeException e) {
                return fail(e);
            }
        }

        public int answer() {
            return answer;
        }

        public int trace(int i) {
            return i >= 0 && i < trace.size() ? trace.get(i) : NONE;
        }

        public int card(int b) {
            if (!bin(b)) return BAD;
            if (full()) return FULL;
            Card c = new Card();
            c.number = cards++;
            things++;
            bins[b] = c;
            return c.number;
        }

        static long fieldOf(Card c, int lane) {
            switch (lane) {
                case 0: return c.f0 ? 1 : 0;
                case 1: return c.f1;
                case 2: return c.f2;
                case 3: return c.f3;
                case 4: return c.f4;
                case 5: return c.f5;
                case 6: return Float.floatToIntBits(c.f6);
                default: return Double.doubleToLongBits(c.f7);
            }
        }

        public long field(int b, int lane) {
            if (!bin(b) || !in(lane, 0, 7)) return 0;
            try {
                return fieldOf((Card) bins[b], lane);
            } catch (RuntimeException e) {
                fail(e);
                return 0;
            }
        }

        public int setField(int b, int lane, long bits) {
            if (!bin(b) || !in(lane, 0, 7)) return BAD;
            try {
                Card c = (Card) bins[b];
                switch (lane) {
                    case 0: c.f0 = (bits & 1) != 0; break;
                    case 1: c.f1 = (byte) bits; break;
                    case 2: c.f2 = (char) bits; break;
                    case 3: c.f3 = (short) bits; break;
                    case 4: c.f4 = (int) bits; break;
                    case 5: c.f5 = bits; break;
                    case 6: c.f6 = Float.intBitsToFloat((int) bits); break;
                    default: c.f7 = Double.longBitsToDouble(bits); break;
                }
                return 1;
            } catch (RuntimeException e) {
                return fail(e);
            }
        }

        public int lead(int b, int what, int from) {
            if (!bin(b) || !bin(from) || !in(what, 0, 1)) return BAD;
            try {
                Card c = (Card) bins[b];
                if (what == 0) {
                    Card n = (Card) bins[from];
                    c.next = n;
                } else {
                    Item l = (Item) bins[from];
                    c.leaf = l;
                }
                return 1;
            } catch (RuntimeException e) {
                return fail(e);
            }
        }

        public int follow(int b, int from, int what) {
            if (!bin(b) || !bin(from) || !in(what, 0, 1)) return BAD;
            try {
                bins[b] = what == 0 ? ((Card) bins[from]).next : ((Card) bins[from]).leaf;
                return 1;
            } catch (RuntimeException e) {
                return fail(e);
            }
        }

        public int led(int b, int what) {
            if (!bin(b) || !in(what, 0, 2)) return BAD;
            try {
                Card c = (Card) bins[b];
                List<Card> seen = new ArrayList<>();
                int last = c.number;
                while (c != null && !seen.contains(c)) {
                    seen.add(c);
                    last = c.number;
                    c = c.next;
                }
                return what == 0 ? seen.size() : what == 1 ? c == null ? NONE : c.number : last;
            } catch (RuntimeException e) {
                return fail(e);
            }
        }

        // ---- 3

        final List<List<int[]>> plans = List.of(new ArrayList<>(), new ArrayList<>(), new ArrayList<>(),
            new ArrayList<>());
        long[] stock = new long[6];
        final int[] places = new int[3], held = new int[3];
        final int[] ran = {0, 0, NONE, 0, 0, 0, 0, 0, 0};
        int dos;

        public int step(int p, int op, int a, int b, int c) {
            if (!in(p, 0, 3) || !in(op, 0, 20)) return BAD;
            if (plans.get(p).size() == 40) return FULL;
            plans.get(p).add(new int[] {op, a, b, c});
            return plans.get(p).size() - 1;
        }

        public int drop(int p) {
            if (!in(p, 0, 3)) return BAD;
            int n = plans.get(p).size();
            plans.get(p).clear();
            return n;
        }

        /** Where the body that begins at a place ends. */
        int endOf(List<int[]> plan, int from, boolean top) {
            int at = from;
            while (true) {
                if (at == plan.size()) {
                    if (top) return at;
                    throw new Malformed(at);
                }
                int op = plan.get(at)[0];
                if (op == 0 && !top) return at;
                if (op == 0 || op == 17 || op == 18) throw new Malformed(at);
                if (op < 11) {
                    at++;
                    continue;
                }
                at = endOf(plan, at + 1, false) + 1;
                if (op == 16) {
                    while (at < plan.size() && plan.get(at)[0] == 17) at = endOf(plan, at + 1, false) + 1;
                    if (at < plan.size() && plan.get(at)[0] == 18) at = endOf(plan, at + 1, false) + 1;
                }
            }
        }

        public int formed(int p) {
            if (!in(p, 0, 3)) return 0;
            try {
                endOf(plans.get(p), 0, true);
                return NONE;
            } catch (Malformed e) {
                return e.place;
            }
        }

        Object[] saved() {
            Object[] s = new Object[17];
            for (int b = 0; b < 16; b++) {
                if (bins[b] instanceof int[]) s[b] = ((int[]) bins[b]).clone();
                if (bins[b] instanceof Card) s[b] = ((Card) bins[b]).f4;
            }
            s[16] = stock.clone();
            return s;
        }

        void restore(Object[] s) {
            for (int b = 0; b < 16; b++) {
                if (s[b] instanceof int[]) System.arraycopy(s[b], 0, bins[b], 0, ((int[]) s[b]).length);
                if (s[b] instanceof Integer) ((Card) bins[b]).f4 = (Integer) s[b];
            }
            stock = ((long[]) s[16]).clone();
        }

        void count() {
            if (ran[1] == 300) throw new Spent();
            ran[1]++;
        }

        void body(List<int[]> plan, int from, int to) {
            int at = from;
            while (at < to) {
                int[] s = plan.get(at);
                int end = s[0] >= 11 ? endOf(plan, at + 1, false) : at;
                if (s[0] == 16) {
                    count();
                    at = tried(plan, at, end);
                    continue;
                }
                do {
                    count();
                } while (one(plan, at, s, end) && s[0] == 20);
                at = end + 1;
            }
        }

        int tried(List<int[]> plan, int at, int end) {
            int next = end + 1;
            List<Integer> catches = new ArrayList<>();
            while (next < plan.size() && plan.get(next)[0] == 17) {
                catches.add(next);
                next = endOf(plan, next + 1, false) + 1;
            }
            int last = next < plan.size() && plan.get(next)[0] == 18 ? next : -1;
            if (last >= 0) next = endOf(plan, last + 1, false) + 1;
            RuntimeException pending = null;
            try {
                try {
                    body(plan, at + 1, end);
                } catch (Fault f) {
                    int c = -1;
                    for (int k : catches) {
                        int a = plan.get(k)[1];
                        if (c < 0 && (a == 0 || a == f.kind)) c = k;
                    }
                    if (c < 0) throw f;
                    ran[4]++;
                    try {
                        body(plan, c + 1, endOf(plan, c + 1, false));
                    } catch (Fault g) {
                        g.cause = f.kind;
                        throw g;
                    }
                }
            } catch (Fault | Answer e) {
                pending = e;
            }
            if (last >= 0) {
                ran[5]++;
                try {
                    body(plan, last + 1, next - 1);
                } catch (Fault g) {
                    if (pending instanceof Fault) g.cause = ((Fault) pending).kind;
                    throw g;
                }
            }
            if (pending != null) throw pending;
            return next;
        }

        /** Whether a LOOP has to look again. */
        boolean one(List<int[]> plan, int at, int[] s, int end) {
            int a = s[1], b = s[2], c = s[3];
            try {
                switch (s[0]) {
                    case 1: stock[a] += b; break;
                    case 2: stock[a] /= b; break;
                    case 3: ((int[]) bins[a])[b] = c; break;
                    case 4: {
                        Object x = bins[a];
                        long was = stock[c];
                        stock[c] = ((int[]) x)[b];
                        break;
                    }
                    case 5: {
                        Card x = (Card) bins[a];
                        x.f4 = b;
                        break;
                    }
                    case 6: {
                        Object x = bins[a];
                        if (!in(b, 0, 3)) throw new IndexOutOfBoundsException();
                        long was = stock[c];
                        stock[c] = asked(x, b);
                        break;
                    }
                    case 7: throw new Own(a);
                    case 8: throw new Answer(a);
                    case 9: if (held[a] == 0) throw new IllegalStateException(); break;
                    case 10: {
                        if (!in(a, 0, 3)) throw new IndexOutOfBoundsException();
                        if (formed(a) != NONE) throw new Own(98);
                        if (dos == 6) throw new Own(99);
                        dos++;
                        try {
                            body(plans.get(a), 0, plans.get(a).size());
                        } finally {
                            dos--;
                        }
                        break;
                    }
                    case 11:
                        held[a]++;
                        ran[6] = Math.max(ran[6], held[0] + held[1] + held[2]);
                        try {
                            body(plan, at + 1, end);
                        } finally {
                            held[a]--;
                        }
                        break;
                    case 12:
                        if (stock[a] < b || b < 0) throw new Own(97);
                        stock[a] -= b;
                        try {
                            body(plan, at + 1, end);
                        } finally {
                            stock[a] += b;
                        }
                        break;
                    case 13:
                        places[a] = b;
                        try {
                            body(plan, at + 1, end);
                        } finally {
                            places[a] = c;
                        }
                        break;
                    case 14: {
                        Object[] save = saved();
                        try {
                            body(plan, at + 1, end);
                        } catch (Fault f) {
                            restore(save);
                            throw f;
                        }
                        break;
                    }
                    case 15: {
                        if (!in(a, 1, 9)) throw new Own(96);
                        for (int k = 1; k <= a; k++) {
                            if (k > 1) count();
                            Object[] save = saved();
                            try {
                                body(plan, at + 1, end);
                                break;
                            } catch (Fault f) {
                                restore(save);
                                if (k == a) throw f;
                            }
                        }
                        break;
                    }
                    case 19:
                    case 20:
                        if (stock[a] > 0) {
                            body(plan, at + 1, end);
                            return true;
                        }
                        break;
                    default: throw new AssertionError();
                }
                return false;
            } catch (Fault | Answer | Spent e) {
                throw e;
            } catch (RuntimeException e) {
                ran[8]++;
                faults++;
                throw new Fault(kindOf(e), e instanceof Own ? ((Own) e).number : 0, at);
            }
        }

        public int run(int p) {
            if (!in(p, 0, 3)) return BAD;
            if (formed(p) != NONE) return NO;
            if (full()) return FULL;
            Arrays.fill(ran, 0);
            ran[2] = NONE;
            Object[] save = saved();
            try {
                body(plans.get(p), 0, plans.get(p).size());
                return 0;
            } catch (Answer e) {
                ran[0] = e.told;
                return 1;
            } catch (Spent e) {
                return -30;
            } catch (Fault f) {
                restore(save);
                ran[2] = f.place;
                ran[3] = f.cause;
                ran[7] = f.number;
                latestFault = f.kind;
                return -10 - f.kind;
            }
        }

        public int ran(int what) {
            return in(what, 0, 8) ? ran[what] : BAD;
        }

        public long stock(int k) {
            return in(k, 0, 5) ? stock[k] : 0;
        }

        public int setStock(int k, long v) {
            if (!in(k, 0, 5)) return BAD;
            stock[k] = v;
            return 1;
        }

        public int valve(int v, int what) {
            if (!in(v, 0, 2) || !in(what, 0, 1)) return 0;
            return what == 0 ? places[v] : held[v];
        }

        // ---- 4

        final List<List<int[]>> lines = List.of(new ArrayList<>(), new ArrayList<>(), new ArrayList<>());
        final int[] on = {-1, -1, -1};
        final Map<Integer, Integer> offset = new HashMap<>();
        final List<Integer> laid = new ArrayList<>();
        final Set<Integer> begun = new HashSet<>();

        public int line(int t, int x, int y) {
            if (!in(t, 0, 2) || Math.abs((long) x) > 1000000 || Math.abs((long) y) > 1000000) return BAD;
            List<int[]> l = lines.get(t);
            if (!l.isEmpty() && l.get(l.size() - 1)[0] >= x) return BAD;
            if (l.size() == 8) return FULL;
            l.add(new int[] {x, y});
            return l.size();
        }

        public int rest(int t, int o) {
            if (!in(t, 0, 2) || !in(o, -1, 2)) return BAD;
            if (laid.contains(t)) return NO;
            on[t] = o;
            return 1;
        }

        void lay(int t) {
            begun.add(t);
            int o = 0;
            if (on[t] >= 0) {
                if (!begun.contains(on[t])) lay(on[t]);
                o = 1 + offset.getOrDefault(on[t], 0);
            }
            offset.put(t, o);
            laid.add(t);
        }

        public int value(int t, int x) {
            if (!in(t, 0, 2)) return 0;
            if (!laid.contains(t)) lay(t);
            List<int[]> l = lines.get(t);
            int o = offset.get(t);
            if (l.isEmpty()) return o;
            if (x <= l.get(0)[0]) return o + l.get(0)[1];
            for (int k = 1; k < l.size(); k++) {
                int[] p = l.get(k - 1), q = l.get(k);
                if (x < q[0]) {
                    BigInteger rise = BigInteger.valueOf(q[1] - p[1]).multiply(BigInteger.valueOf(x - p[0]));
                    BigInteger[] d = rise.divideAndRemainder(BigInteger.valueOf(q[0] - p[0]));
                    return o + p[1] + d[0].intValue() - (d[1].signum() < 0 ? 1 : 0);
                }
            }
            return o + l.get(l.size() - 1)[1];
        }

        public int laid(int k) {
            return k >= 0 && k < laid.size() ? laid.get(k) : NONE;
        }

        // ---- 5, 6

        final double[] readings = new double[9];
        final long[] past = new long[9];
        final int[][] state = new int[9][5];
        final double[] voted = {Double.NaN, Double.NaN, Double.NaN};
        double part = 2.0;
        final int[] weather = {0, 10000, 5000, 0, 0};
        final List<List<int[]>> marks = List.of(new ArrayList<>(), new ArrayList<>(), new ArrayList<>());
        final long[][] airs = {new long[11], new long[11], new long[11]};
        int minute;

        {
            Arrays.fill(readings, Double.NaN);
            for (int p = 0; p < 9; p++) state[p][0] = 1;
            for (long[] a : airs) {
                a[0] = 20000;
                a[1] = 8000;
            }
        }

        public int read(int p, long bits) {
            if (!in(p, 0, 8)) return BAD;
            readings[p] = Double.longBitsToDouble(bits);
            return 1;
        }

        public int part(long bits) {
            double d = Double.longBitsToDouble(bits);
            if (Double.isNaN(d) || d < 0) return BAD;
            part = d;
            return 1;
        }

        public int probe(int p, int what) {
            return in(p, 0, 8) && in(what, 0, 4) ? state[p][what] : BAD;
        }

        public long voted(int h) {
            return in(h, 0, 2) ? Double.doubleToLongBits(voted[h]) : 0;
        }

        public int weather(int what, int v) {
            int[][] range = {{0, 1000}, {-40000, 60000}, {0, 40000}, {0, 1}, {0, 1}};
            if (!in(what, 0, 4) || !in(v, range[what][0], range[what][1])) return -100000;
            int was = weather[what];
            weather[what] = v;
            return was;
        }

        public int mark(int h, int m, int w) {
            if (!in(h, 0, 2) || !in(m, 0, 1439) || !in(w, -50000, 60000)) return BAD;
            List<int[]> l = marks.get(h);
            if (!l.isEmpty() && l.get(l.size() - 1)[0] >= m) return BAD;
            if (l.size() == 6) return FULL;
            l.add(new int[] {m, w});
            return l.size();
        }

        public int unmark(int h) {
            if (!in(h, 0, 2)) return BAD;
            int n = marks.get(h).size();
            marks.get(h).clear();
            return n;
        }

        public int wish(int h, int m) {
            if (!in(h, 0, 2) || !in(m, 0, 1439)) return -100000;
            List<int[]> l = new ArrayList<>(marks.get(h));
            if (l.isEmpty()) return -100001;
            int[] first = l.get(0), last = l.get(l.size() - 1);
            l.add(0, new int[] {last[0] - 1440, last[1]});
            l.add(new int[] {first[0] + 1440, first[1]});
            for (int k = 1; k < l.size(); k++) {
                int[] p = l.get(k - 1), q = l.get(k);
                if (p[0] <= m && m < q[0]) {
                    return p[1] + (int) Math.floor((double) ((long) (q[1] - p[1]) * (m - p[0])) / (q[0] - p[0]));
                }
            }
            throw new AssertionError();
        }

        public int minute(int n) {
            if (!in(n, 1, 100)) return BAD;
            if (minute + n > 100000) return FULL;
            for (int k = 0; k < n; k++) {
                minute++;
                for (int h = 0; h < 3; h++) {
                    vote(h);
                    steer(h, airs[h]);
                    blow(airs[h]);
                }
            }
            return minute;
        }

        void vote(int h) {
            int[] ps = {h, h + 3, h + 6};
            boolean[] changed = new boolean[9];
            for (int p : ps) {
                long now = Double.doubleToLongBits(readings[p]);
                changed[p] = minute > 1 && now != past[p];
                state[p][4] = minute > 1 && !changed[p] ? state[p][4] + 1 : 1;
                past[p] = now;
            }
            List<Double> good = new ArrayList<>();
            int reads = 0;
            for (int p : ps) {
                if (Double.isNaN(readings[p])) continue;
                reads++;
                if (state[p][0] == 1) good.add(readings[p]);
            }
            good.sort(Double::compare);
            voted[h] = good.isEmpty() ? Double.NaN : good.get((good.size() - 1) / 2);
            for (int p : ps) {
                int[] s = state[p];
                if (reads < 3 || Double.isNaN(voted[h]) || Double.isNaN(readings[p])) {
                    s[2] = 0;
                    s[3] = 0;
                } else if (readings[p] != voted[h] && Math.abs(readings[p] - voted[h]) > part) {
                    s[2]++;
                    s[3] = 0;
                } else {
                    s[2] = 0;
                    s[3]++;
                }
                boolean other = false;
                for (int q : ps) if (q != p && changed[q]) other = true;
                int to = 0;
                if (!Double.isNaN(readings[p]) && s[4] >= 8 && other) to = 2;
                else if (s[0] == 1 && s[2] >= 3) to = 1;
                else if (s[0] == 0 && s[3] >= 5) to = 3;
                if (to > 0) {
                    s[0] = to == 3 ? 1 : 0;
                    s[1] = to == 3 ? 0 : to;
                    s[2] = 0;
                    s[3] = 0;
                }
            }
        }

        static long clamp(long v, long lo, long hi) {
            return v < lo ? lo : v > hi ? hi : v;
        }

        void steer(int h, long[] a) {
            long was = a[3];
            if (weather[3] == 1) {
                a[3] = Math.max(0, was - 10);
                return;
            }
            if (Double.isNaN(voted[h]) || marks.get(h).isEmpty()) {
                a[3] = was > 10 ? Math.max(10, was - 10) : Math.min(10, was + 10);
                a[4] = a[4] > 30 ? Math.max(30, a[4] - 10) : Math.min(30, a[4] + 10);
            } else {
                long v = clamp((long) (voted[h] * 1000), -1000000000, 1000000000);
                long d = clamp(v - wish(h, minute % 1440), -100000, 100000);
                a[5] = clamp(a[5] + d / 16, -4000, 4000);
                long move = clamp(d / 400 + a[5] / 500, -10, 10);
                for (; move > 0; move--) {
                    if (a[4] > 0) a[4]--;
                    else if (a[3] < 100) a[3]++;
                }
                for (; move < 0; move++) {
                    if (a[3] > 0) a[3]--;
                    else if (a[4] < 100) a[4]++;
                }
            }
            if (weather[4] == 1 && a[3] > 20) a[3] = Math.max(20, was - 10);
        }

        void blow(long[] a) {
            long in = weather[0] / 8 + 5 * a[4];
            long lost = (a[0] - weather[1]) * (2 + a[3]) / 200;
            a[0] += in - lost;
            long wet = 12 + weather[0] / 50;
            long gone = (a[1] - weather[2]) * a[3] / 80;
            a[1] += wet - gone;
            a[6] += in;
            a[7] += lost;
            a[8] += wet;
            a[9] += gone;
            if (a[1] < 0) {
                a[10] += -a[1];
                a[1] = 0;
            }
            long most = lines.get(0).isEmpty() ? 9000 : Math.max(0, value(0, (int) (a[0] / 1000)));
            if (a[1] > most) {
                a[2] += a[1] - most;
                a[1] = most;
            }
        }

        public long air(int h, int what) {
            return in(h, 0, 2) && in(what, 0, 10) ? airs[h][what] : 0;
        }

        // ---- 7

        static long[] shared(long n, long[] by) {
            BigInteger sum = BigInteger.ZERO;
            for (long b : by) sum = sum.add(BigInteger.valueOf(b));
            long[] out = new long[by.length];
            BigInteger[] rests = new BigInteger[by.length];
            long left = n;
            for (int k = 0; k < by.length; k++) {
                BigInteger[] d = BigInteger.valueOf(n).multiply(BigInteger.valueOf(by[k])).divideAndRemainder(sum);
                out[k] = d[0].longValue();
                rests[k] = d[1];
                left -= out[k];
            }
            List<Integer> order = new ArrayList<>();
            for (int k = 0; k < by.length; k++) order.add(k);
            order.sort((x, y) -> rests[y].compareTo(rests[x]));
            for (int k = 0; k < left; k++) out[order.get(k)]++;
            return out;
        }

        public int shares(int b, int n, int to) {
            if (!bin(b) || !bin(to) || !in(n, 0, 1000000000)) return BAD;
            try {
                int[] row = (int[]) bins[b];
                long sum = 0;
                long[] by = new long[row.length];
                for (int k = 0; k < row.length; k++) {
                    if (row[k] < 0) return NO;
                    by[k] = row[k];
                    sum += row[k];
                }
                if (sum == 0) return NO;
                if (full()) return FULL;
                bins[to] = shared(n, by);
                things++;
                return 1;
            } catch (RuntimeException e) {
                return fail(e);
            }
        }

        public long quotient(int lane, long a, long b, int what) {
            if (!in(lane, 4, 5) || !in(what, 0, 1)) return 0;
            try {
                if (lane == 4) return what == 0 ? (int) a / (int) b : (int) a % (int) b;
                return what == 0 ? a / b : a % b;
            } catch (RuntimeException e) {
                fail(e);
                return 0;
            }
        }

        public int compare(int lane, int b, int i, int other, int j) {
            if (!in(lane, 6, 7) || !bin(b) || !bin(other)) return BAD;
            try {
                boolean less, lessLike, more, moreLike, like, unlike;
                if (lane == 6) {
                    float[] x = (float[]) bins[b], y = (float[]) bins[other];
                    float p = x[i], q = y[j];
                    less = p < q; lessLike = p <= q; more = p > q; moreLike = p >= q; like = p == q; unlike = p != q;
                } else {
                    double[] x = (double[]) bins[b], y = (double[]) bins[other];
                    double p = x[i], q = y[j];
                    less = p < q; lessLike = p <= q; more = p > q; moreLike = p >= q; like = p == q; unlike = p != q;
                }
                return (less ? 1 : 0) + (lessLike ? 2 : 0) + (more ? 4 : 0) + (moreLike ? 8 : 0) + (like ? 16 : 0)
                    + (unlike ? 32 : 0);
            } catch (RuntimeException e) {
                return fail(e);
            }
        }

        public long real(int lane, int b, int what) {
            if (!in(lane, 6, 7) || !bin(b) || !in(what, 0, 3)) return 0;
            try {
                List<Double> all = new ArrayList<>();
                if (lane == 6) for (float f : (float[]) bins[b]) all.add((double) f);
                else for (double d : (double[]) bins[b]) all.add(d);
                all.removeIf(d -> Double.isNaN(d));
                if (all.isEmpty()) return Double.doubleToLongBits(Double.NaN);
                double sum = 0.0;
                for (double d : all) sum += d;
                all.sort(Double::compare);
                double out = what == 0 ? all.get(0) : what == 1 ? all.get(all.size() - 1)
                    : what == 2 ? sum / all.size() : all.get((all.size() - 1) / 2);
                return Double.doubleToLongBits(out);
            } catch (RuntimeException e) {
                fail(e);
                return 0;
            }
        }

        public int wholeMean(int b) {
            if (!bin(b)) return BAD;
            try {
                long sum = 0;
                for (int v : (int[]) bins[b]) sum += v;
                answer = (int) (sum / ((int[]) bins[b]).length);
                return 1;
            } catch (RuntimeException e) {
                return fail(e);
            }
        }

        final int[][] salts = new int[6][3];
        BigInteger[] solution, witness;
        int rank;

        public int salt(int s, int j, int v) {
            if (!in(s, 0, 5) || !in(j, 0, 2) || !in(v, 0, s < 4 ? 99 : 999)) return BAD;
            int was = salts[s][j];
            salts[s][j] = v;
            return was;
        }

        /** Fractions as pairs of big numbers. */
        static BigInteger[] fraction(BigInteger n, BigInteger d) {
            BigInteger g = n.gcd(d);
            if (d.signum() < 0) g = g.negate();
            return new BigInteger[] {n.divide(g), d.divide(g)};
        }

        public int work() {
            BigInteger[][][] m = new BigInteger[3][8][];
            for (int j = 0; j < 3; j++) {
                for (int c = 0; c < 8; c++) {
                    int v = c < 4 ? salts[c][j] : c == 4 ? salts[4][j] - salts[5][j] : c - 5 == j ? 1 : 0;
                    m[j][c] = fraction(BigInteger.valueOf(v), BigInteger.ONE);
                }
            }
            List<Integer> columns = new ArrayList<>();
            solution = null;
            witness = null;
            for (int c = 0; c < 4; c++) {
                int r = columns.size();
                int f = r;
                while (f < 3 && m[f][c][0].signum() == 0) f++;
                if (f >= 3) continue;
                BigInteger[][] swap = m[f];
                m[f] = m[r];
                m[r] = swap;
                BigInteger[] by = m[r][c];
                for (int k = 0; k < 8; k++) {
                    m[r][k] = fraction(m[r][k][0].multiply(by[1]), m[r][k][1].multiply(by[0]));
                }
                for (int o = 0; o < 3; o++) {
                    if (o == r) continue;
                    BigInteger[] t = m[o][c];
                    for (int k = 0; k < 8; k++) {
                        BigInteger n = t[0].multiply(m[r][k][0]), d = t[1].multiply(m[r][k][1]);
                        m[o][k] = fraction(m[o][k][0].multiply(d).subtract(n.multiply(m[o][k][1])),
                            m[o][k][1].multiply(d));
                    }
                }
                columns.add(c);
            }
            rank = columns.size();
            for (int r = rank; r < 3; r++) {
                if (m[r][4][0].signum() != 0) {
                    witness = new BigInteger[3];
                    BigInteger all = m[r][5][1].multiply(m[r][6][1]).multiply(m[r][7][1]), g = BigInteger.ZERO;
                    int sign = 0;
                    for (int k = 0; k < 3; k++) {
                        witness[k] = m[r][5 + k][0].multiply(all).divide(m[r][5 + k][1]);
                        g = g.gcd(witness[k]);
                        if (sign == 0) sign = witness[k].signum();
                    }
                    for (int k = 0; k < 3; k++) {
                        witness[k] = witness[k].divide(g).multiply(BigInteger.valueOf(sign));
                    }
                    return 0;
                }
            }
            solution = new BigInteger[] {BigInteger.ZERO, BigInteger.ZERO, BigInteger.ZERO, BigInteger.ZERO,
                BigInteger.ONE, BigInteger.ONE, BigInteger.ONE, BigInteger.ONE};
            int out = 1;
            for (int r = 0; r < rank; r++) {
                solution[columns.get(r)] = m[r][4][0];
                solution[4 + columns.get(r)] = m[r][4][1];
                if (m[r][4][0].signum() < 0) out = 2;
            }
            return out;
        }

        public long worked(int what, int k) {
            if (what == 3) return rank;
            if (in(what, 0, 1) && in(k, 0, 3) && solution != null) return solution[4 * what + k].longValueExact();
            if (what == 2 && in(k, 0, 2) && witness != null) return witness[k].longValueExact();
            return 0;
        }

        // ---- 8

        long[][] pests = new long[2][4];
        final int[][][] shift = new int[2][4][3];
        int days, wait;

        public int count(int p, int s, int n) {
            if (!in(p, 0, 1) || !in(s, 0, 3) || !in(n, 0, 1000000000)) return BAD;
            pests[p][s] = n;
            return 1;
        }

        public int parts(int p, int s, int on, int stays, int young) {
            if (!in(p, 0, 1) || !in(s, 0, 3) || !in(on, 0, 1000) || !in(stays, 0, 1000) || !in(young, 0, 1000)) {
                return BAD;
            }
            shift[p][s] = new int[] {on, stays, young};
            return 1;
        }

        public int day(int n) {
            if (!in(n, 1, 50)) return BAD;
            if (days + n > 10000) return FULL;
            for (int k = 0; k < n; k++) {
                long[][] next = new long[2][5];
                for (int p = 0; p < 2; p++) {
                    for (int s = 0; s < 4; s++) {
                        int[] t = shift[p][s];
                        long[] went = shared(pests[p][s], new long[] {t[0], t[1], 2000 - t[0] - t[1]});
                        next[p][s + 1] += went[0];
                        next[p][s] += went[1];
                    }
                    next[p][0] += pests[p][3] * shift[p][3][2] / 100;
                    next[p] = Arrays.copyOf(next[p], 4);
                    for (int s = 0; s < 4; s++) next[p][s] = Math.min(next[p][s], 1000000000);
                }
                pests = next;
                days++;
                wait = Math.max(0, wait - 1);
            }
            return days;
        }

        public int spray(int p) {
            if (!in(p, 0, 1)) return BAD;
            for (int s = 0; s < 4; s++) pests[p][s] /= 4;
            wait = 7;
            return 1;
        }

        public int pest(int p, int s) {
            return in(p, 0, 1) && in(s, 0, 3) ? (int) pests[p][s] : BAD;
        }

        public int wait1() {
            return wait;
        }

        // ---- 9

        final byte[][] pages = new byte[20][64];
        int latest, next, power = -1;
        boolean dark;

        static int sum(byte[] page) {
            int s = 0;
            for (int k = 0; k < 60; k++) {
                s ^= page[k] & 255;
                s = (s << 11) | (s >>> 21);
                s *= 0xC2B2AE35;
            }
            return s;
        }

        static byte[] filled(int number, int lane, long[] cells) {
            ByteBuffer buffer = ByteBuffer.allocate(64);
            buffer.putInt(number).put((byte) lane).put((byte) cells.length).position(12);
            for (long c : cells) buffer.putLong(c);
            buffer.putInt(60, sum(buffer.array()));
            return buffer.array();
        }

        public int write(int b) {
            if (!bin(b)) return BAD;
            int lane = formOf(bins[b]);
            if (lane == NONE) return fail(new NullPointerException());
            if (lane != 1 && lane != 3 && lane != 4 && lane != 5) return fail(new ClassCastException());
            if (dark) return NO;
            int n = java.lang.reflect.Array.getLength(bins[b]);
            if (n > 6 || next == 20 || latest == Integer.MAX_VALUE) return FULL;
            long[] cells = new long[n];
            for (int k = 0; k < n; k++) cells[k] = cell(bins[b], lane, k);
            byte[] bytes = filled(latest + 1, lane, cells);
            int page = next;
            for (int k = 0; k < 64; k++) {
                if (power == 0) {
                    dark = true;
                    return NO;
                }
                if (power > 0) power--;
                if (k == 0) next++;
                pages[page][k] = bytes[k];
            }
            return ++latest;
        }

        public int power(int n) {
            if (!in(n, -1, 200)) return BAD;
            if (dark) return NO;
            power = n;
            return 1;
        }

        /** Whole pages by decoding and writing again. */
        boolean whole(int p) {
            ByteBuffer buffer = ByteBuffer.wrap(pages[p]);
            int number = buffer.getInt(0), lane = buffer.get(4), n = buffer.get(5);
            if (number < 1 || !in(n, 0, 6) || lane != 1 && lane != 3 && lane != 4 && lane != 5) return false;
            Object row = array(lane, n);
            long[] cells = new long[n];
            for (int k = 0; k < n; k++) {
                setCell(row, lane, k, buffer.getLong(12 + 8 * k));
                cells[k] = cell(row, lane, k);
            }
            return Arrays.equals(pages[p], filled(number, lane, cells));
        }

        java.util.TreeMap<Integer, Integer> readable() {
            java.util.TreeMap<Integer, Integer> all = new java.util.TreeMap<>();
            for (int p = 0; p < 20; p++) if (whole(p)) all.putIfAbsent(ByteBuffer.wrap(pages[p]).getInt(0), p);
            return all;
        }

        public int open1() {
            power = -1;
            dark = false;
            latest = readable().isEmpty() ? 0 : readable().lastKey();
            next = 0;
            for (int p = 0; p < 20; p++) for (byte b : pages[p]) if (b != 0) next = p + 1;
            return readable().size();
        }

        public long page(int k, int what) {
            List<Integer> all = new ArrayList<>(readable().values());
            if (k < 0 || k >= all.size()) return NONE;
            ByteBuffer buffer = ByteBuffer.wrap(pages[all.get(k)]);
            switch (what) {
                case 0: return all.get(k);
                case 1: return buffer.getInt(0);
                case 2: return buffer.get(4);
                case 3: return buffer.get(5);
                default: return what >= 10 && what - 10 < buffer.get(5) ? buffer.getLong(12 + 8 * (what - 10)) : NONE;
            }
        }

        public int octet(int p, int i) {
            return in(p, 0, 19) && in(i, 0, 63) ? pages[p][i] & 255 : BAD;
        }

        public int damage(int p, int i, int mask) {
            if (!in(p, 0, 19) || !in(i, 0, 63) || !in(mask, 0, 255)) return BAD;
            pages[p][i] ^= (byte) mask;
            return pages[p][i] & 255;
        }

        int clash() {
            int many = 0;
            Map<Integer, Integer> first = readable();
            for (int p = 0; p < 20; p++) {
                if (whole(p) && !Arrays.equals(pages[p], pages[first.get(ByteBuffer.wrap(pages[p]).getInt(0))])) many++;
            }
            return many;
        }

        public int told(int what) {
            switch (what) {
                case 0: return minute;
                case 1: return things;
                case 2: return faults;
                case 3: return latest;
                case 4: return next;
                case 5: return dark ? 1 : 0;
                case 6: return clash();
                case 7: return days;
                case 8: return readable().size();
                case 9: return plans.get(0).size() + plans.get(1).size() + plans.get(2).size() + plans.get(3).size();
                case 10: return laid.size();
                default: return BAD;
            }
        }

        public int fault() {
            return latestFault;
        }
    }

    // ------------------------------------------------------------------ the runs

    static final String[] SPEC = {
        "row B L C", "grid B g a C z", "storeys B 4", "share B N", "form B", "is B F", "get B L I", "put B L I V",
        "bed B g I I", "setBed B g I I V", "countUp B i i i z", "set B i B", "lift B B i", "liftAs B B i F",
        "shift B i B i i", "came", "copy B B z", "alike B B", "size B w",
        "plant B k s s B B", "tray B t 8", "ask B q", "answer", "trace r", "card B", "field B L", "setField B L V",
        "lead B w B", "follow B B w", "led B x",
        "step p o A A A", "drop p", "formed p", "run p", "ran 9", "stock 6", "setStock 6 S", "valve v w",
        "line v X Y", "rest v n", "value v X", "laid 4",
        "read 9 V", "part V", "probe 9 5", "voted v", "weather 5 W", "mark v M H", "unmark v", "wish v M", "minute T",
        "air v 11",
        "shares B Z B", "quotient u V V w", "compare e B I B I", "real e B 4", "wholeMean B", "salt 6 3 Q", "work",
        "worked 4 4",
        "count 2 4 Z", "parts 2 4 P P P", "day D", "spray 2", "pest 2 4", "wait1",
        "write B", "power O", "open1", "page K J", "octet 20 64", "damage 20 64 m", "told 11", "fault"};

    static final String[] THEMES = {
        ".*",
        "row|grid|storeys|share|form|is|get|put|bed|setBed|countUp|set|lift|liftAs|shift|came|copy|alike|size|tray|plant",
        "plant|plant|tray|ask|ask|answer|trace|trace|card|field|setField|lead|follow|led|is|set|lift|share|copy|alike|shift",
        "row|put|get|card|field|plant|run|ran|stock|setStock|valve|told|fault|trace|formed|share",
        "line|rest|value|laid|minute|air|told",
        "read|read|read|read|part|probe|voted|weather|mark|unmark|wish|minute|minute|minute|air|air|line",
        "row|put|put|put|get|shares|quotient|compare|real|wholeMean|answer|salt|work|worked|share",
        "salt|salt|salt|work|worked|worked",
        "count|parts|day|spray|pest|pest|wait1|told",
        "row|put|write|write|write|power|open1|page|octet|damage|told|told"};

    static final class Runs {
        final Random random;
        final Map<String, Method> real = new HashMap<>(), told = new HashMap<>();
        final StringBuilder log = new StringBuilder();
        GlassHouse x;
        Oracle y;
        int calls;

        Runs(long seed) {
            random = new Random(seed);
            for (Method m : GlassHouse.class.getDeclaredMethods()) {
                if (java.lang.reflect.Modifier.isPublic(m.getModifiers())) real.put(m.getName(), m);
            }
            for (Method m : Oracle.class.getDeclaredMethods()) {
                if (java.lang.reflect.Modifier.isPublic(m.getModifiers())) told.put(m.getName(), m);
            }
        }

        int below(int n) {
            return random.nextInt(n);
        }

        boolean rarely() {
            return below(40) == 0;
        }

        int upTo(int most) {
            return rarely() ? (random.nextBoolean() ? -1 : most + 1) : below(most + 1);
        }

        static final long[] BITS = {0, 1, -1, 2, 7, 70000, -70000, Long.MIN_VALUE, Long.MAX_VALUE, Integer.MIN_VALUE,
            Integer.MAX_VALUE, 0x7FC00000L, 0x7F800001L, 0xFF800000L, 0x7F800000L, 0x80000000L, 0x00000001L,
            0x007FFFFFL, 0x3F800000L, 0x7FF8000000000000L, 0x7FF0000000000000L, 0xFFF0000000000000L,
            0x7FF0000000000001L, 0xFFFFFFFFFFFFFFFFL, 0x7FEFFFFFFFFFFFFFL, 0xFFEFFFFFFFFFFFFFL, 0x000FFFFFFFFFFFFFL,
            0x0010000000000000L, 0x8000000000000001L, 3, 5, -3};

        long bits() {
            switch (below(6)) {
                case 0: return BITS[below(BITS.length)];
                case 1: return random.nextLong();
                case 2: return Float.floatToIntBits((below(2000) - 1000) / 8f);
                case 3: return Double.doubleToLongBits(20 + below(60) / 10.0);
                case 4: return below(100);
                default: return Double.doubleToLongBits((random.nextDouble() - 0.5) * Math.pow(2, below(1400) - 1000));
            }
        }

        /** Ints that lie far from all that fits. */
        static final int[] FAR = {Integer.MIN_VALUE, Integer.MIN_VALUE + 1, Integer.MAX_VALUE, Integer.MAX_VALUE - 1,
            -65536, 65536, 1 << 30, -1 << 30};

        Object argument(char c) {
            switch (c) {
                case 'B': return rarely() ? (random.nextBoolean() ? -1 : 16) : below(below(4) == 0 ? 16 : 6);
                case 'N': return rarely() ? 16 : below(7) - 1;
                case 'L': return upTo(7);
                case 'F': return upTo(17);
                case 'C': return rarely() ? 41 : below(8) == 0 ? 40 : below(9) - 1;
                case 'a': return rarely() ? 11 : below(7) - 1;
                case 'g': return below(20) == 0 ? 7 + below(5) : 8 + below(3);
                case 't': return below(20) == 0 ? 11 + below(6) : 12 + below(4);
                case '4': return below(6) - 1;
                case '8': return below(11) - 1;
                case 'I': return below(9) - 1;
                case 'i': return below(5) == 0 ? below(9) - 1 : below(3);
                case 'V': return bits();
                case 'z': return random.nextBoolean();
                case 'w': return upTo(1);
                case 'x': return upTo(2);
                case 'k': return upTo(5);
                case 's': return below(10) == 0 ? (int) random.nextLong() : below(7) - 2;
                case 'q': return upTo(7);
                case 'r': return below(30) - 1;
                case 'p': return upTo(3);
                case 'o': return upTo(20);
                case 'A': return below(8) - 1;
                case '9': return upTo(8);
                case '6': return upTo(5);
                case 'S': return below(4) == 0 ? random.nextLong() : (long) below(20);
                case 'v': return upTo(2);
                case 'n': return below(4) - 1;
                case 'X': return below(10) == 0 ? below(2200000) - 1100000 : below(80) - 20;
                case 'Y': return below(10) == 0 ? below(2200000) - 1100000 : below(30000) - 2000;
                case '5': return upTo(4);
                case 'W': return below(3) == 0 ? below(2) : below(110000) - 45000;
                case 'M': return rarely() ? 1440 : below(1440);
                case 'H': return below(115000) - 52000;
                case 'T': return rarely() ? 101 : below(4) == 0 ? below(101) : 1 + below(3);
                case 'Z': return rarely() ? -1 : below(3) == 0 ? below(1000000001) : below(2000);
                case 'u': return below(10) == 0 ? 3 + below(4) : 4 + below(2);
                case 'e': return below(20) == 0 ? 5 + below(4) : 6 + below(2);
                case '3': return upTo(2);
                case 'Q': return below(3) == 0 ? 0 : below(5) == 0 ? below(1002) : below(12);
                case '2': return upTo(1);
                case 'P': return rarely() ? 1001 : below(1001);
                case 'D': return rarely() ? 51 : below(10);
                case 'O': return rarely() ? 201 : below(4) == 0 ? -1 : below(201);
                case 'K': return upTo(12);
                case 'J': return below(18);
                case 'm': return rarely() ? 256 : below(256);
                default: throw new AssertionError("" + c);
            }
        }

        Object wide(String code) {
            if (code.equals("11")) return upTo(10);
            if (code.equals("20")) return rarely() ? 20 : below(5) == 0 ? below(20) : below(3);
            if (code.equals("64")) return upTo(63);
            if (code.equals("4")) return argument('4');
            return argument(code.charAt(0));
        }

        boolean call(String name, Object... args) throws Exception {
            calls++;
            Object a = real.get(name).invoke(x, args);
            Object b = told.get(name).invoke(y, args);
            log.append(name).append(Arrays.toString(args)).append(" = ").append(b).append('\n');
            if (a.equals(b)) return true;
            System.out.println(log + "answered " + a + ", due is " + b);
            return false;
        }

        boolean spec(String line) throws Exception {
            String[] words = line.split(" ");
            Object[] args = new Object[words.length - 1];
            for (int k = 0; k < args.length; k++) args[k] = wide(words[k + 1]);
            Class<?>[] types = real.get(words[0]).getParameterTypes();
            for (int k = 0; k < args.length; k++) {
                if (types[k] == int.class && args[k] instanceof Long) args[k] = ((Long) args[k]).intValue();
                if (types[k] == int.class && below(80) == 0) args[k] = FAR[below(FAR.length)];
                if (types[k] == long.class && args[k] instanceof Integer) args[k] = ((Integer) args[k]).longValue();
            }
            return call(words[0], args);
        }

        int room;

        boolean emit(int plan, int op, int a, int b, int c) throws Exception {
            room--;
            return call("step", plan, op, a, b, c);
        }

        /** One of the ops, each as often as it stands there. */
        int anyOf(int... ops) {
            return ops[below(ops.length)];
        }

        /** Random steps that are mostly well formed, and mostly with numbers that fit. */
        boolean body(int plan, int depth) throws Exception {
            int many = below(depth == 0 ? 7 : 4);
            for (int k = 0; k < many && room > 6; k++) {
                boolean plain = below(9) < 4 || depth > 5;
                int op = plain ? anyOf(1, 1, 1, 2, 3, 3, 4, 5, 6, 7, 7, 8, 9, 10, 10)
                    : anyOf(16, 16, 16, 16, 16, 11, 12, 13, 14, 14, 15, 15, 19, 20, 20);
                if (!step(plan, op)) return false;
                if (plain) continue;
                if (op == 20 && !emit(plan, 1, loop, -1, 0)) return false;
                if (!body(plan, depth + 1) || !emit(plan, 0, 0, 0, 0)) return false;
                if (op == 16 && !handlers(plan, depth)) return false;
                if (rarely() && below(6) == 0 && !emit(plan, below(21), 0, 0, 0)) return false;
            }
            return true;
        }

        int loop;

        boolean step(int plan, int op) throws Exception {
            int a = below(3), b = below(4), c = below(6);
            switch (op) {
                case 1: b = below(3) - 1; break;
                case 2: b = below(3); break;
                case 3: a = below(8) == 0 ? below(4) : 0; break;
                case 4: a = below(8) == 0 ? below(4) : 0; break;
                case 5: a = below(8) == 0 ? below(4) : 1; break;
                case 6: a = below(8) == 0 ? below(4) : 2; break;
                case 7: a = below(100); break;
                case 10: a = below(4); break;
                case 12: b = below(7) - 1; break;
                case 15: a = below(8) == 0 ? below(12) - 1 : 1 + below(3); break;
                case 19: a = below(6); break;
                case 20: a = below(6); break;
                default: break;
            }
            if (below(25) == 0) a = below(18) - 1;
            if (below(25) == 0) b = below(10) - 2;
            if (below(25) == 0) c = below(9) - 1;
            loop = a;
            return emit(plan, op, a, b, c);
        }

        boolean handlers(int plan, int depth) throws Exception {
            for (int n = below(3); n > 0 && room > 4; n--) {
                if (!emit(plan, 17, below(3) == 0 ? 0 : 1 + below(9), 0, 0) || !body(plan, depth + 1)
                    || !emit(plan, 0, 0, 0, 0)) return false;
            }
            if (below(2) == 0 && room > 4) {
                return emit(plan, 18, 0, 0, 0) && body(plan, depth + 1) && emit(plan, 0, 0, 0, 0);
            }
            return true;
        }

        boolean acts() throws Exception {
            for (int plan = 0; plan < 4; plan++) {
                if (!call("drop", plan)) return false;
                room = 40;
                for (int k = 0; k < 3 && room > 20; k++) if (!body(plan, 0)) return false;
                if (!call("formed", plan)) return false;
            }
            return true;
        }

        boolean afterRun() throws Exception {
            for (int k = 0; k < 6; k++) if (below(3) == 0 && !call("setStock", k, (long) below(9))) return false;
            if (below(5) == 0 && (!call("row", 0, 4, 4) || !call("card", 1)
                || !call("plant", 2, below(6), below(4), below(3), below(6), below(6)))) return false;
            if (!call("run", below(4))) return false;
            for (int k = 0; k < 9; k++) if (!call("ran", k)) return false;
            for (int k = 0; k < 6; k++) if (!call("stock", k)) return false;
            for (int k = 0; k < 3; k++) if (!call("valve", k, 0) || !call("valve", k, 1)) return false;
            for (int k = 0; k < 3; k++) if (!call("get", 0, 4, k) || !call("field", 1, 4)) return false;
            return call("told", 2) && call("fault") && call("trace", 0);
        }

        /** One object through one run. */
        boolean object(int theme) throws Exception {
            x = new GlassHouse();
            y = new Oracle();
            log.setLength(0);
            calls = 0;
            List<String> lines = new ArrayList<>();
            for (String name : THEMES[theme].equals(".*") ? new String[0] : THEMES[theme].split("\\|")) {
                for (String s : SPEC) if (s.split(" ")[0].equals(name)) lines.add(s);
            }
            if (lines.isEmpty()) lines.addAll(Arrays.asList(SPEC));
            if (theme == 3 && !acts()) return false;
            // Acts need many calls; an object that goes on behind its 512th one answers as before.
            int most = theme == 3 ? 3000 : 500;
            while (calls < most) {
                boolean fine;
                if (theme == 3 && below(8) == 0) fine = acts();
                else if (theme == 3 && below(6) > 0) fine = afterRun();
                else fine = spec(lines.get(below(lines.size())));
                if (!fine) return false;
            }
            return true;
        }
    }

    public static void main(String[] args) throws Exception {
        int objects = args.length > 0 ? Integer.parseInt(args[0]) : 600;
        long start = args.length > 1 ? Long.parseLong(args[1]) : 1;
        for (int k = 0; k < objects; k++) {
            Runs runs = new Runs(start + k);
            if (!runs.object(k % THEMES.length)) {
                System.out.println("seed " + (start + k) + ", theme " + k % THEMES.length + ": not as due");
                System.exit(1);
            }
        }
        System.out.println(objects + " random runs are as due");
    }
}

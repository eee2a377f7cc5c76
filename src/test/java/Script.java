import java.lang.reflect.Method;
import java.util.ArrayList;
import java.util.HashMap;
import java.util.List;
import java.util.Map;

/**
 * Runs of calls written as lines, each run on a new object:
 * <pre>
 *   row(0, 4, 3) = 1          the call, and the answer that is due
 *   40 * step(0, 1, 0, 1, 0)  forty calls, whatever they answer
 *   read(0, d20.5) = 1        d and f: the bits of a double, a float; NaN is dNaN; 0x.. is hexadecimal
 *   # words                   nothing
 * </pre>
 */
final class Script {
    private static final Map<String, Call> KNOWN = new HashMap<>();

    private static int wrong;
    private static int calls;

    private Script() {
    }

    /** A call that was read from its line. */
    private record Call(Method method, Object[] arguments) {
    }

    static void run(String title, String lines) {
        GlassHouse house = new GlassHouse();
        for (String line : lines.split("\n")) {
            String text = line.strip();
            if (text.isEmpty() || text.startsWith("#")) {
                continue;
            }
            try {
                one(title, house, text);
            } catch (ReflectiveOperationException | RuntimeException e) {
                wrong++;
                System.out.println(title + ": " + text + " threw " + (e.getCause() == null ? e : e.getCause()));
            }
        }
    }

    static void due(String title, long got, long want) {
        calls++;
        if (got != want) {
            wrong++;
            System.out.println(title + " answered " + got + ", due is " + want);
        }
    }

    /** Ends the test: with exit code 1, if an answer was not the one that is due. */
    static void end() {
        System.out.println(wrong == 0 ? calls + " answers are as due" : wrong + " answers are not as due");
        if (wrong != 0) {
            System.exit(1);
        }
    }

    private static void one(String title, GlassHouse house, String text) throws ReflectiveOperationException {
        int times = 1;
        String call = text;
        int star = text.indexOf(" * ");
        if (star > 0 && star < text.indexOf('(')) {
            times = Integer.parseInt(text.substring(0, star));
            call = text.substring(star + 3);
        }
        int equals = call.indexOf(") = ");
        String head = equals < 0 ? call : call.substring(0, equals + 1);
        for (int k = 0; k < times; k++) {
            long got = answer(house, head);
            if (equals >= 0) {
                due(title + ": " + head, got, number(call.substring(equals + 4)));
            }
        }
    }

    /** What an object answers to a call that is told as a line's is. */
    static long ask(GlassHouse house, String call) {
        try {
            return answer(house, call);
        } catch (ReflectiveOperationException e) {
            throw new IllegalStateException(call, e);
        }
    }

    private static long answer(GlassHouse house, String text) throws ReflectiveOperationException {
        Call call = KNOWN.get(text);
        if (call == null) {
            call = callOf(text);
            KNOWN.put(text, call);
        }
        return ((Number) call.method.invoke(house, call.arguments)).longValue();
    }

    private static Call callOf(String call) throws ReflectiveOperationException {
        int open = call.indexOf('(');
        String name = call.substring(0, open).strip();
        List<String> words = new ArrayList<>();
        for (String word : call.substring(open + 1, call.lastIndexOf(')')).split(",")) {
            if (!word.isBlank()) {
                words.add(word.strip());
            }
        }
        Method method = named(name);
        Class<?>[] types = method.getParameterTypes();
        if (types.length != words.size()) {
            throw new IllegalArgumentException("the test's call has another number of arguments");
        }
        Object[] arguments = new Object[types.length];
        for (int k = 0; k < types.length; k++) {
            arguments[k] = argument(types[k], words.get(k));
        }
        return new Call(method, arguments);
    }

    private static Method named(String name) throws NoSuchMethodException {
        for (Method method : GlassHouse.class.getMethods()) {
            if (method.getName().equals(name) && method.getDeclaringClass() == GlassHouse.class) {
                return method;
            }
        }
        throw new NoSuchMethodException(name);
    }

    private static Object argument(Class<?> type, String word) {
        if (type == boolean.class) {
            return Boolean.valueOf(word);
        }
        long number = number(word);
        if (type == long.class) {
            return number;
        }
        if (number != (int) number) {
            throw new IllegalArgumentException("the test's " + word + " is no int");
        }
        return (int) number;
    }

    static long number(String text) {
        String word = text.strip();
        switch (word) {
            case "NONE":
                return GlassHouse.NONE;
            case "BAD":
                return GlassHouse.BAD;
            case "NO":
                return GlassHouse.NO;
            case "FULL":
                return GlassHouse.FULL;
            default:
                break;
        }
        if (word.startsWith("0x")) {
            return Long.parseUnsignedLong(word.substring(2), 16);
        }
        if (word.startsWith("d")) {
            return Double.doubleToLongBits(Double.parseDouble(word.substring(1)));
        }
        if (word.startsWith("f")) {
            return Float.floatToIntBits(Float.parseFloat(word.substring(1)));
        }
        return Long.parseLong(word);
    }
}

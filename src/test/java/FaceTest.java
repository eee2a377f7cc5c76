import java.io.IOException;
import java.lang.reflect.Constructor;
import java.lang.reflect.Field;
import java.lang.reflect.Method;
import java.lang.reflect.Modifier;
import java.nio.file.Files;
import java.nio.file.Path;
import java.util.Set;
import java.util.TreeSet;

/** The class has the document's face and nothing else, and its file keeps to what can be seen of LANGUAGE.md. */
public final class FaceTest {
    private static final String FACE = """
        int row(int bin, int lane, int n);
        int grid(int bin, int form, int a, int n, boolean bare);
        int storeys(int bin, int n);
        int share(int bin, int from);
        int form(int bin);
        int is(int bin, int form);
        long get(int bin, int lane, int i);
        int put(int bin, int lane, int i, long bits);
        long bed(int bin, int form, int i, int j);
        int setBed(int bin, int form, int i, int j, long bits);
        int countUp(int bin, int s, int i, int j, boolean after);
        int set(int bin, int i, int from);
        int lift(int bin, int from, int i);
        int liftAs(int bin, int from, int i, int form);
        int shift(int bin, int i, int other, int j, int n);
        int came();
        int copy(int bin, int from, boolean deep);
        int alike(int bin, int other);
        int size(int bin, int what);
        int plant(int bin, int kind, int a, int b, int p, int q);
        int tray(int bin, int form, int n);
        int ask(int bin, int what);
        int answer();
        int trace(int i);
        int card(int bin);
        long field(int bin, int lane);
        int setField(int bin, int lane, long bits);
        int lead(int bin, int what, int from);
        int follow(int bin, int from, int what);
        int led(int bin, int what);
        int step(int plan, int op, int a, int b, int c);
        int drop(int plan);
        int formed(int plan);
        int run(int plan);
        int ran(int what);
        long stock(int k);
        int setStock(int k, long v);
        int valve(int v, int what);
        int line(int table, int x, int y);
        int rest(int table, int on);
        int value(int table, int x);
        int laid(int k);
        int read(int probe, long bits);
        int part(long bits);
        int probe(int probe, int what);
        long voted(int house);
        int weather(int what, int v);
        int mark(int house, int minute, int wish);
        int unmark(int house);
        int wish(int house, int minute);
        int minute(int n);
        long air(int house, int what);
        int shares(int bin, int n, int to);
        long quotient(int lane, long a, long b, int what);
        int compare(int lane, int bin, int i, int other, int j);
        long real(int lane, int bin, int what);
        int wholeMean(int bin);
        int salt(int salt, int j, int v);
        int work();
        long worked(int what, int k);
        int count(int pest, int stage, int n);
        int parts(int pest, int stage, int on, int stays, int young);
        int day(int n);
        int spray(int pest);
        int pest(int pest, int stage);
        int wait1();
        int write(int bin);
        int power(int n);
        int open1();
        long page(int k, int what);
        int octet(int page, int i);
        int damage(int page, int i, int mask);
        int told(int what);
        int fault();
        """;

    private static int wrong;

    public static void main(String[] args) throws IOException {
        methods();
        members();
        insideClasses();
        words();
        System.out.println(wrong == 0 ? "the face is as due" : wrong + " are not as due");
        if (wrong != 0) {
            System.exit(1);
        }
    }

    private static void due(boolean fine, String what) {
        if (!fine) {
            wrong++;
            System.out.println("not as due: " + what);
        }
    }

    private static String shape(Method method) {
        StringBuilder text = new StringBuilder(method.getReturnType() + " " + method.getName());
        for (Class<?> type : method.getParameterTypes()) {
            text.append(' ').append(type);
        }
        return text.toString();
    }

    private static void methods() {
        Set<String> wanted = new TreeSet<>();
        for (String line : FACE.strip().split("\n")) {
            StringBuilder text = new StringBuilder();
            String[] halves = line.strip().split("[()]");
            text.append(halves[0]);
            for (String word : halves[1].split(",")) {
                if (!word.isBlank()) {
                    text.append(' ').append(word.strip().split(" ")[0]);
                }
            }
            wanted.add(text.toString());
        }
        Set<String> found = new TreeSet<>();
        Set<String> names = new TreeSet<>();
        for (Method method : GlassHouse.class.getDeclaredMethods()) {
            if (Modifier.isPublic(method.getModifiers())) {
                found.add(shape(method));
                names.add(method.getName());
                due(!Modifier.isStatic(method.getModifiers()), shape(method) + " is static");
            }
        }
        due(found.equals(wanted), "methods " + found);
        for (Method method : GlassHouse.class.getDeclaredMethods()) {
            int modifiers = method.getModifiers();
            due(Modifier.isPublic(modifiers) || Modifier.isPrivate(modifiers), shape(method) + " is visible");
            due(Modifier.isPublic(modifiers) || !names.contains(method.getName()), shape(method) + " has a public name");
        }
    }

    private static void members() {
        due(Modifier.isFinal(GlassHouse.class.getModifiers()) && Modifier.isPublic(GlassHouse.class.getModifiers()),
            "public final class");
        Constructor<?>[] constructors = GlassHouse.class.getDeclaredConstructors();
        due(constructors.length == 1 && Modifier.isPublic(constructors[0].getModifiers())
            && constructors[0].getParameterCount() == 0, "constructor");
        Set<String> open = new TreeSet<>();
        for (Field field : GlassHouse.class.getDeclaredFields()) {
            if (!Modifier.isPrivate(field.getModifiers())) {
                open.add(field.getName());
            }
            due(!Modifier.isStatic(field.getModifiers()) || Modifier.isFinal(field.getModifiers()), "static " + field);
        }
        due(open.equals(Set.of("NONE", "BAD", "NO", "FULL")), "constants " + open);
        due(GlassHouse.NONE == -1 && GlassHouse.BAD == -2 && GlassHouse.NO == -3 && GlassHouse.FULL == -4, "values");
    }

    private static void insideClasses() {
        Class<?>[] inside = GlassHouse.class.getDeclaredClasses();
        due(inside.length < 12, inside.length + " classes inside");
        for (Class<?> one : inside) {
            due(Modifier.isStatic(one.getModifiers()), one + " is static");
            due(!Modifier.isPublic(one.getModifiers()), one + " is not public");
            int fields = 0;
            for (Field field : one.getDeclaredFields()) {
                if (!Modifier.isStatic(field.getModifiers())) {
                    fields++;
                }
            }
            due(fields <= 20, one + " has " + fields + " fields");
            parameters(one);
        }
        parameters(GlassHouse.class);
    }

    private static void parameters(Class<?> one) {
        for (Method method : one.getDeclaredMethods()) {
            due(method.getParameterCount() <= 7, one + " " + shape(method) + " has more than seven parameters");
        }
    }

    /** Words that the file may not have; comments are no matter. */
    private static void words() throws IOException {
        String source = Files.readString(Path.of("src/main/java/GlassHouse.java"));
        String code = source.replaceAll("(?s)/\\*.*?\\*/", " ").replaceAll("//[^\n]*", " ");
        String[] refused = {"->", "::", "\\bfinally\\b", "\\btry\\b", "\\bcatch\\b", "\\bthrow\\b", "\\bassert\\b",
            "\\bsynchronized\\b", "\\bimport\\b", "\\bpackage\\b", "\\bDouble\\.", "\\bFloat\\.", "\\bSystem\\.(?!arraycopy)",
            "Exact\\b", "\\bMath\\.(random|sqrt|pow|floor\\b|ceil|rint|round)", "\"", "\\bvar\\b", "\\bstatic\\s*\\{"};
        for (String word : refused) {
            due(!java.util.regex.Pattern.compile(word).matcher(code).find(), "the file has " + word);
        }
        int since = 0;
        for (String line : code.split("\n")) {
            boolean begins = line.matches("    (    )?[a-zA-Z].*\\) \\{");
            since = begins ? 0 : since + 1;
            due(!line.matches("    (    )?\\}") || since <= 62, "a method has more than sixty lines: " + since);
        }
    }
}

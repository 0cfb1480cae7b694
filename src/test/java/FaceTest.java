import java.lang.management.ManagementFactory;
import java.lang.reflect.Field;
import java.lang.reflect.Method;
import java.lang.reflect.Modifier;
import java.nio.file.Files;
import java.nio.file.Path;
import java.util.Arrays;
import java.util.Set;
import java.util.TreeSet;
import java.util.stream.Collectors;

/** The public face, what calls make, and those rules of LANGUAGE.md that a program can see. */
public final class FaceTest {
    private static final String[] FACE = {
        "int type(long, int) IllegalArgumentException IllegalStateException",
        "void wipe()",
        "void put(int, int) IndexOutOfBoundsException IllegalArgumentException",
        "int pass(int) IllegalArgumentException",
        "long clock()",
        "void set(long)",
        "void drift(int) IllegalArgumentException",
        "long request(int) IndexOutOfBoundsException",
        "int hear(int) IndexOutOfBoundsException",
        "boolean serve()",
        "void turn()",
        "long answer(int, int, int, int, long, long, long, long) IndexOutOfBoundsException IllegalArgumentException",
        "long peer(int, int) IndexOutOfBoundsException IllegalArgumentException IllegalStateException",
        "long sample(int, int, int) IndexOutOfBoundsException IllegalArgumentException",
        "int chosen(int) IllegalArgumentException",
        "long about(int) IllegalArgumentException IllegalStateException",
        "int size()",
        "int out(int) IndexOutOfBoundsException",
    };

    public static void main(String[] args) throws Exception {
        faceIsTheDocuments();
        classesInsideAreHidden();
        callsMakeNothing();
        textKeepsTheRules(Files.readString(Path.of("src/main/java/TimeKeeper.java")));
        Check.end("FaceTest");
    }

    private static String signature(Method m) {
        String parameters = Arrays.stream(m.getParameterTypes()).map(Class::getSimpleName).collect(Collectors.joining(", "));
        String thrown = Arrays.stream(m.getExceptionTypes()).map(c -> " " + c.getSimpleName()).collect(Collectors.joining());
        return m.getReturnType().getSimpleName() + " " + m.getName() + "(" + parameters + ")" + thrown;
    }

    private static void faceIsTheDocuments() throws Exception {
        Class<?> c = TimeKeeper.class;
        Check.same("the class is public and final", c.getModifiers(), Modifier.PUBLIC | Modifier.FINAL);
        Check.same("constructors", c.getDeclaredConstructors().length, 1);
        Check.holds("the constructor is public", Modifier.isPublic(c.getConstructor().getModifiers()));
        Set<String> open = new TreeSet<>();
        Set<String> names = new TreeSet<>();
        for (Method m : c.getDeclaredMethods()) {
            if (!Modifier.isPrivate(m.getModifiers())) {
                open.add(signature(m));
                names.add(m.getName());
                Check.same(m.getName() + " is public and no more", m.getModifiers(), Modifier.PUBLIC);
            }
        }
        Check.same("methods that are not private", open.toString(), new TreeSet<>(Arrays.asList(FACE)).toString());
        for (Method m : c.getDeclaredMethods()) {
            Check.holds("private " + m.getName() + " has a name of its own",
                !Modifier.isPrivate(m.getModifiers()) || !names.contains(m.getName()));
        }
        for (Field f : c.getDeclaredFields()) {
            boolean isConstant = f.getName().equals("NONE");
            Check.holds("field " + f.getName(), isConstant == !Modifier.isPrivate(f.getModifiers()));
            Check.holds("static " + f.getName() + " is final", Modifier.isFinal(f.getModifiers()));
        }
        Check.same("NONE", c.getField("NONE").getInt(null), -1);
        Check.same("NONE's kind", c.getField("NONE").getModifiers(), Modifier.PUBLIC | Modifier.STATIC | Modifier.FINAL);
    }

    private static void classesInsideAreHidden() {
        Class<?>[] inside = TimeKeeper.class.getDeclaredClasses();
        Check.holds("at most twelve classes", inside.length < 12);
        for (Class<?> c : inside) {
            Check.holds(c + " is private and static", Modifier.isPrivate(c.getModifiers()) && Modifier.isStatic(c.getModifiers()));
            Check.holds(c + " has at most twenty fields", c.getDeclaredFields().length <= 20);
            for (Method m : c.getDeclaredMethods()) {
                Check.holds(c + " " + m.getName() + " has at most seven parameters", m.getParameterCount() <= 7);
            }
        }
    }

    private static long oneRun() {
        TimeKeeper x = new TimeKeeper();
        return calls(x) + calls(x);
    }

    private static long calls(TimeKeeper x) {
        long sum = 0;
        for (int i = 0; i < 10; i++) {
            sum += x.pass(3);
            for (int peer = 0; peer < 8; peer++) {
                sum += x.request(peer);
                sum += x.answer(peer, 1 + peer % 3, 10, 1000, 4096L * 50 * peer, 9000, 0, 9000 + peer);
                sum += x.hear(peer);
                sum += x.peer(peer, 6) + x.sample(peer, 0, 2) + x.chosen(2) + x.about(5);
            }
            x.turn();
            sum += x.serve() ? 1 : 0;
            x.wipe();
            sum += x.type(sum, 8) + x.size() + x.out(7);
            x.put(0, 1);
        }
        return sum;
    }

    /** All calls of a run live in one room, so only constructors make objects. */
    private static void callsMakeNothing() {
        var bean = (com.sun.management.ThreadMXBean) ManagementFactory.getThreadMXBean();
        long sum = oneRun();
        TimeKeeper x = new TimeKeeper();
        bean.getCurrentThreadAllocatedBytes();
        long before = bean.getCurrentThreadAllocatedBytes();
        for (int i = 0; i < 20; i++) {
            sum += calls(x);
        }
        long made = bean.getCurrentThreadAllocatedBytes() - before;
        Check.holds("some 13000 calls made " + made + " bytes (sum " + sum + ")", made < 4096);
    }

    private static void textKeepsTheRules(String text) {
        String code = text.replaceAll("(?s)/\\*.*?\\*/", "").replaceAll("//.*", "");
        String[] ruledOut = {"import ", "package ", "->", "::", "Exact", "synchronized", "assert ", "finally", "static {", "try ",
            "System.out", "System.nano", "System.current", "Random", "Thread", "MAX_VALUE", "MIN_VALUE", "double", "float", "@"};
        for (String word : ruledOut) {
            Check.holds("the program has no '" + word + "'", !code.contains(word));
        }
        int length = 0;
        for (String line : text.split("\n")) {
            boolean isHead = line.matches(" {4,8}\\S.*\\{") && !line.contains("class");
            length = isHead ? 1 : length + 1;
            if (line.matches(" {4,8}\\}")) {
                Check.holds("a method that ends with '" + line + "' has " + length + " lines", length <= 60);
            }
            Check.holds("a line of at most 120 characters: " + line, line.length() <= 120);
        }
    }
}

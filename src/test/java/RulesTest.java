import java.io.IOException;
import java.lang.management.ManagementFactory;
import java.lang.reflect.Constructor;
import java.lang.reflect.Field;
import java.lang.reflect.Method;
import java.lang.reflect.Modifier;
import java.nio.file.Files;
import java.nio.file.Path;
import java.util.Arrays;
import java.util.List;
import java.util.Set;
import java.util.TreeSet;

/** What LANGUAGE.md asks of the class: its face, its words, its room. */
public final class RulesTest {
    private static final Check CHECK = new Check();
    private static final Path SOURCE = Path.of("src/main/java/EchoBids.java");
    private static final List<String> FACE = List.of(
        "bestPlan(int,int)int", "bid(int,int)int", "bidder(int,int)int", "carryOut()int", "count(int)int", "dear()long",
        "endsIn()int", "fault()int", "ifLag(int)int", "lot(int)int", "made(int,int)int", "of(int,int)int",
        "ofLot(int,int)int", "pass(int)int", "plan(int,int)int", "put(long)int", "restore(int)int", "save(int)int",
        "set(int,int)int", "shadows()int", "undo()int", "wipe()int");
    private static final List<String> FOREIGN = List.of("import ", "package ", "throw", "try ", "catch", "finally",
        "assert", "synchronized", "->", "::", "instanceof", "Object", "hashCode", "toString", "equals(", "Exact(",
        "Float.", "Double.", "Random", "Thread", "System.out", "System.exit", "System.current", "System.nano", "static {",
        "var ", "\" +", "+ \"");

    private static String shape(Method method) {
        StringBuilder text = new StringBuilder(method.getName()).append('(');
        for (Class<?> type : method.getParameterTypes()) {
            text.append(text.charAt(text.length() - 1) == '(' ? "" : ",").append(type.getName());
        }
        return text.append(')').append(method.getReturnType().getName()).toString();
    }

    private static void face() {
        CHECK.part("face");
        Set<String> shapes = new TreeSet<>();
        Set<String> names = new TreeSet<>();
        for (Method method : EchoBids.class.getDeclaredMethods()) {
            if (Modifier.isPublic(method.getModifiers())) {
                shapes.add(shape(method));
                names.add(method.getName());
            } else {
                CHECK.holds(method.getName() + " is private", Modifier.isPrivate(method.getModifiers()));
            }
        }
        CHECK.holds("the public methods are those of the document: " + shapes, shapes.equals(new TreeSet<>(FACE)));
        Constructor<?>[] constructors = EchoBids.class.getDeclaredConstructors();
        CHECK.due("constructors", constructors.length, 1);
        CHECK.holds("the class is public and final", Modifier.isPublic(EchoBids.class.getModifiers())
            && Modifier.isFinal(EchoBids.class.getModifiers()));
        Set<String> constants = new TreeSet<>();
        for (Field field : EchoBids.class.getDeclaredFields()) {
            if (Modifier.isPublic(field.getModifiers())) {
                constants.add(field.getName());
            } else {
                CHECK.holds(field.getName() + " is private", Modifier.isPrivate(field.getModifiers()));
            }
        }
        CHECK.holds("the public constants are those of the document: " + constants, constants.equals(new TreeSet<>(
            List.of("NO_SUCH", "BAD_VALUE", "BAD_TEXT", "TOO_MANY", "NOT_POSSIBLE", "NONE", "LAG", "STEP", "QUIET", "PRICE"))));
        for (Class<?> inside : EchoBids.class.getDeclaredClasses()) {
            CHECK.holds(inside + " is static", Modifier.isStatic(inside.getModifiers()));
            for (Method method : inside.getDeclaredMethods()) {
                CHECK.holds(method.getName() + " is no name of the face", !names.contains(method.getName()));
                CHECK.holds(method.getName() + " takes at most seven", method.getParameterCount() <= 7);
            }
            long fields = Arrays.stream(inside.getDeclaredFields()).filter(f -> !Modifier.isStatic(f.getModifiers())).count();
            CHECK.holds(inside + " has at most some twenty fields", fields <= 20);
        }
        CHECK.holds("at most some twelve classes", EchoBids.class.getDeclaredClasses().length <= 11);
    }

    private static void words() throws IOException {
        CHECK.part("words");
        List<String> lines = Files.readAllLines(SOURCE);
        int opened = 0;
        boolean inComment = false;
        for (int i = 0; i < lines.size(); i++) {
            String line = lines.get(i);
            CHECK.holds("line " + (i + 1) + " is of signs 1 to 127", line.chars().allMatch(c -> c >= 1 && c <= 127));
            String code = line.strip();
            inComment |= code.startsWith("/*");
            if (!inComment && !code.startsWith("//")) {
                for (String word : FOREIGN) {
                    CHECK.holds("line " + (i + 1) + " has no '" + word + "'", !code.contains(word));
                }
            }
            if (code.endsWith("*/")) {
                inComment = false;
            }
            boolean opens = line.matches("    (    )?[a-zA-Z].*\\) \\{");
            opened = opens ? i : opened;
            if (line.matches("    (    )?\\}")) {
                CHECK.holds("the method that ends on line " + (i + 1) + " is short", i - opened <= 60 || line.length() < 9);
            }
        }
    }

    private static int callAll(EchoBids x, int k) {
        int sum = x.set(k % 4, k % 7) + x.bidder(k * 31 % 10000, k % 201) + x.plan(k % 6, k * 7 % 201) + x.lot(k * 13 % 1000)
            + x.bid(k % 6, k * 17 % 10000) + x.pass(1 + k % 9) + x.of(k % 6, k % 11) + x.ofLot(k % 8, k % 8) + x.made(k % 41, k % 5)
            + x.count(k % 15) + x.shadows() + (int) x.dear() + x.endsIn() + x.ifLag(k % 6) + x.bestPlan(k % 6, k % 2)
            + x.put(0x74313B6C35L) + x.fault() + x.carryOut() + x.put('x') + x.wipe();
        return sum + (k % 3 == 0 ? x.undo() : 0) + x.save(k % 2) + (k % 5 == 0 ? x.restore(k % 2) : 0);
    }

    private static void room() {
        CHECK.part("room");
        com.sun.management.ThreadMXBean bean = (com.sun.management.ThreadMXBean) ManagementFactory.getThreadMXBean();
        EchoBids x = new EchoBids();
        int sum = 0;
        for (int k = 0; k < 200; k++) {
            sum += callAll(x, k);
        }
        long self = Thread.currentThread().getId();
        bean.getThreadAllocatedBytes(self);
        long before = bean.getThreadAllocatedBytes(self);
        for (int k = 0; k < 200; k++) {
            sum += callAll(x, k);
        }
        long taken = bean.getThreadAllocatedBytes(self) - before;
        CHECK.holds("4600 calls took " + taken + " bytes (" + sum + ")", taken < 10000);
        before = bean.getThreadAllocatedBytes(self);
        x = new EchoBids();
        taken = bean.getThreadAllocatedBytes(self) - before;
        CHECK.holds("a new object took " + taken + " bytes", taken < 40000 && x.count(0) == 0);
    }

    /** No arguments at all make a call throw, whatever was called ahead of it. */
    private static void anyArguments() {
        CHECK.part("any arguments");
        int[] odd = {Integer.MIN_VALUE, -100000, -7, -6, -2, -1, 0, 1, 2, 5, 6, 8, 40, 99, 9999, 10000, Integer.MAX_VALUE - 1, Integer.MAX_VALUE};
        long calls = 0;
        for (int round = 0; round < 6; round++) {
            EchoBids x = new EchoBids();
            for (int k = 0; k < round * 10; k++) {
                callAll(x, k);
            }
            for (int a : odd) {
                for (int b : odd) {
                    x.set(a, b);
                    x.bidder(a, b);
                    x.plan(a, b);
                    x.bid(a, b);
                    x.of(a, b);
                    x.ofLot(a, b);
                    x.made(a, b);
                    x.bestPlan(a, b);
                    x.put((long) a << 32 ^ b);
                    calls += 9;
                }
                x.lot(a);
                x.pass(a);
                x.count(a);
                x.ifLag(a);
                x.endsIn();
                x.fault();
                x.carryOut();
                x.save(a);
                x.restore(a);
                calls += 9;
            }
        }
        CHECK.holds("all of them answered", calls > 0);
    }

    public static void main(String[] args) throws IOException {
        face();
        words();
        room();
        anyArguments();
        CHECK.finish("rules");
    }
}

import java.lang.management.ManagementFactory;
import java.lang.reflect.Constructor;
import java.lang.reflect.Field;
import java.lang.reflect.Method;
import java.lang.reflect.Modifier;
import java.nio.file.Files;
import java.nio.file.Path;
import java.util.ArrayList;
import java.util.List;
import java.util.Set;
import java.util.TreeSet;
import java.util.regex.Matcher;
import java.util.regex.Pattern;

/** The public face, the words that LANGUAGE.md rules out, how large it lets things grow, and what calls make in memory. */
public final class FaceTest {
    private static final String[] METHODS = {"write 1", "wipe 0", "fault 0", "lay 0", "tenant 2", "ship 2", "stripe 2", "pass 1",
        "pay 2", "change 2", "smoke 1", "undo 0", "seen 2", "sign 2", "fleet 1", "order 1", "needed 1", "least 1", "rock 1",
        "row 4", "look 2", "forget 0", "behind 1", "panes 0", "odds 2", "mean 1", "owed 1", "weeks 3", "keep 0", "back 0",
        "count 1"};
    private static int sink = 0;

    public static void main(String[] args) throws Exception {
        face();
        words(Files.readString(Path.of(args[0])));
        limits(Files.readString(Path.of(args[0])));
        memory();
        Check.end();
    }

    private static void face() {
        Set<String> due = new TreeSet<>(Set.of(METHODS));
        Set<String> names = new TreeSet<>();
        Set<String> got = new TreeSet<>();
        for (String method : METHODS) {
            names.add(method.split(" ")[0]);
        }
        for (Method m : LetByColours.class.getDeclaredMethods()) {
            if (Modifier.isPrivate(m.getModifiers())) {
                Check.holds("no private method is called " + m.getName(), !names.contains(m.getName()));
            } else {
                Check.holds(m + " is public and answers an int",
                    m.getModifiers() == Modifier.PUBLIC && m.getReturnType() == int.class);
                for (Class<?> type : m.getParameterTypes()) {
                    Check.holds(m + " takes ints", type == int.class);
                }
                got.add(m.getName() + " " + m.getParameterCount());
            }
        }
        Check.holds("the methods are " + due + ", not " + got, due.equals(got));
        Check.holds("the class is public and final",
            LetByColours.class.getModifiers() == (Modifier.PUBLIC | Modifier.FINAL));
        Constructor<?>[] made = LetByColours.class.getDeclaredConstructors();
        Check.holds("one public constructor", made.length == 1 && made[0].getModifiers() == Modifier.PUBLIC
            && made[0].getParameterCount() == 0);
        Set<String> constants = new TreeSet<>();
        for (Field f : LetByColours.class.getDeclaredFields()) {
            if (!Modifier.isPrivate(f.getModifiers())) {
                constants.add(f.getName());
            }
        }
        Check.holds("the constants are " + constants, constants.equals(Set.of("BAD", "NO", "FULL", "NONE")));
        Check.due("BAD", LetByColours.BAD, -1);
        Check.due("NO", LetByColours.NO, -2);
        Check.due("FULL", LetByColours.FULL, -3);
        Check.due("NONE", LetByColours.NONE, -4);
        for (Class<?> inside : LetByColours.class.getDeclaredClasses()) {
            Check.holds(inside + " is static", Modifier.isStatic(inside.getModifiers()));
            for (Method m : inside.getDeclaredMethods()) {
                Check.holds("none inside is called " + m.getName(), !names.contains(m.getName()));
            }
        }
    }

    private static void words(String program) {
        for (String word : new String[] {"throw", "throws", "try", "catch", "synchronized", "assert", "package", "Exception",
            "->", "::", "Math\\.\\w+Exact", "System\\.(?!arraycopy)", "Object", "float", "double"}) {
            String whole = word.matches("\\w+") ? "\\b" + word + "\\b" : word;
            Check.holds("the program has no " + word, !Pattern.compile(whole).matcher(program).find());
        }
        for (String line : program.split("\n")) {
            Check.holds("no library but java.util.Arrays: " + line,
                !line.startsWith("import") || line.equals("import java.util.Arrays;"));
        }
    }

    /** How large LANGUAGE.md lets methods, classes and the file grow. */
    private static void limits(String program) {
        int methods = 0;
        Matcher method = Pattern.compile("(?m)^( +)(?:private|public) [^=;{]*\\([^=;{]*\\) \\{\n(.*\n)*?\\1\\}").matcher(program);
        while (method.find()) {
            methods++;
            Check.holds("at most sixty lines: " + method.group(), method.group().split("\n").length <= 60);
        }
        Check.holds(methods + " methods were found", methods > METHODS.length + 30);
        List<Class<?>> classes = new ArrayList<>(List.of(LetByColours.class.getDeclaredClasses()));
        classes.add(LetByColours.class);
        Check.holds(classes.size() + " classes, twelve at most", classes.size() <= 12);
        for (Class<?> each : classes) {
            int fields = 0;
            for (Field f : each.getDeclaredFields()) {
                boolean constant = Modifier.isStatic(f.getModifiers());
                Check.holds(f + " is final", !constant || Modifier.isFinal(f.getModifiers()));
                fields += constant ? 0 : 1;
            }
            Check.holds(each + " has " + fields + " fields, twenty at most", fields <= 20);
            for (Method m : each.getDeclaredMethods()) {
                Check.holds(m + " takes seven numbers at most", m.getParameterCount() <= 7);
            }
        }
    }

    /** Calls make nothing, so that a run's room is that of its constructors. */
    private static void memory() {
        com.sun.management.ThreadMXBean thread = (com.sun.management.ThreadMXBean) ManagementFactory.getThreadMXBean();
        LetByColours x = new LetByColours();
        everyCall(x);
        long ahead = thread.getCurrentThreadAllocatedBytes();
        for (int round = 0; round < 200; round++) {
            everyCall(x);
        }
        long made = thread.getCurrentThreadAllocatedBytes() - ahead;
        Check.holds("200 rounds of every call made " + made + " bytes, " + sink, made < 20_000);
    }

    private static void everyCall(LetByColours x) {
        sink += x.wipe() + x.write('t') + x.fault() + x.lay() + x.tenant(0, 0) + x.ship(0, 0) + x.stripe(0, 0);
        sink += x.pass(1) + x.pay(0, 1) + x.change(0, 1) + x.smoke(3) + x.undo() + x.seen(0, 0) + x.sign(0, 0) + x.fleet(-1);
        sink += x.order(0) + x.needed(0) + x.least(0) + x.rock(0) + x.row(0, 0, 0, 0) + x.look(0, 0) + x.behind(0);
        sink += x.panes() + x.odds(0, 0) + x.mean(0) + x.owed(0) + x.weeks(1, 60, 0) + x.keep() + x.back() + x.count(0);
        sink += x.forget();
    }
}

import java.io.File;
import java.io.IOException;
import java.net.URL;
import java.net.URLClassLoader;
import java.nio.file.Files;
import java.nio.file.Path;
import java.util.ArrayList;
import java.util.Comparator;
import java.util.HashMap;
import java.util.List;
import java.util.Map;
import java.util.Set;
import java.util.TreeSet;
import java.util.regex.Matcher;
import java.util.regex.Pattern;
import java.util.stream.Stream;
import javax.tools.ToolProvider;

/** What README.md shows is so: its programs and rows of calls, what calls take, the constants, the text, the tests. */
public final class ReadmeTest {
    private static final Pattern BLOCK = Pattern.compile("```java\n(.*?)```", Pattern.DOTALL);
    private static final Pattern SHOWN = Pattern.compile("(x\\.\\w+\\(.*\\));\\s+// (-?\\d+|BAD|NO|FULL|NONE): .+");
    private static final Pattern SPAN = Pattern.compile("`([^`\n]+\\) = [^`\n]+)`");
    private static final Pattern CALL_ROW = Pattern.compile("\\| `(\\w+)\\(([^()]*)\\)` \\|([^|]*)\\|([^|]*)\\|([^|]*)\\|");
    private static final Pattern TAKEN = Pattern.compile("`(\\w+)` (-?\\d+) to (-?\\d+)");
    private static final Pattern FACE = Pattern.compile("    public int (\\w+)\\(([^()]*)\\) \\{");
    private static final Pattern ITEM_ROW = Pattern.compile("\\| `([a-z])([A-Z](?:,[A-Z])*);` \\|(.*)\\|");
    private static final Pattern ITEM_NUMBER = Pattern.compile("\\b([A-Z]) \\((\\d+) to (\\d+)\\)");
    private static final Pattern AT_MOST = Pattern.compile("; (\\d+) at most");
    private static final Pattern TEST_ROW = Pattern.compile("\\| `(\\w+Test)` \\|");

    public static void main(String[] args) throws Exception {
        String page = Files.readString(Path.of("README.md"));
        Check.sentence("README.md");
        programs(page);
        rowsOfCalls(page);
        everyCall(page, Files.readString(Path.of(args[0])));
        constants(page);
        firstText(page);
        items(page);
        itemsLeftOut(page);
        rooms(page);
        lastNight(page);
        callsThatAnObjectIsGoodFor(page);
        tests(page);
        Check.end();
    }

    /** The programs are compiled as they stand, but that the answers of the calls with one told behind them are gathered. */
    private static void programs(String page) throws Exception {
        StringBuilder source = new StringBuilder("public final class Shown {\n");
        List<List<String[]>> told = new ArrayList<>();
        Matcher block = BLOCK.matcher(page);
        while (block.find()) {
            source.append("public static java.util.List<Integer> program").append(told.size()).append("() {\n")
                .append("java.util.List<Integer> answers = new java.util.ArrayList<>();\n");
            told.add(toldIn(block.group(1), source));
            source.append("return answers;\n}\n");
        }
        Check.holds("it shows programs", told.size() >= 2);
        Path room = Files.createTempDirectory("readme");
        try {
            runShown(source.append("}\n").toString(), told, room);
        } finally {
            removeAll(room);
        }
    }

    private static List<String[]> toldIn(String block, StringBuilder source) {
        List<String[]> told = new ArrayList<>();
        for (String line : block.split("\n")) {
            Matcher shown = SHOWN.matcher(line);
            if (shown.matches()) {
                told.add(new String[] {shown.group(1), shown.group(2)});
                source.append("answers.add(").append(shown.group(1)).append(");\n");
            } else {
                Check.holds("an answer is told behind " + line, !line.startsWith("x."));
                source.append(line).append('\n');
            }
        }
        Check.holds("a program shows calls: " + block, told.size() >= 5);
        return told;
    }

    private static void runShown(String source, List<List<String[]>> told, Path room) throws Exception {
        Path file = Files.writeString(room.resolve("Shown.java"), source);
        String classes = System.getProperty("java.class.path");
        int failed = ToolProvider.getSystemJavaCompiler().run(null, null, null, "-cp", classes, "-d", room.toString(), file.toString());
        Check.due("the compiler, of its programs,", failed, 0);
        if (failed != 0) {
            return;
        }
        try (URLClassLoader loader = new URLClassLoader(new URL[] {room.toUri().toURL()})) {
            for (int program = 0; program < told.size(); program++) {
                List<?> answers = (List<?>) loader.loadClass("Shown").getMethod("program" + program).invoke(null);
                for (int n = 0; n < answers.size(); n++) {
                    String[] row = told.get(program).get(n);
                    Check.due("program " + program + ": " + row[0], (Integer) answers.get(n), House.number(row[1]));
                }
            }
        }
    }

    private static void removeAll(Path room) throws IOException {
        try (Stream<Path> files = Files.walk(room)) {
            files.sorted(Comparator.reverseOrder()).map(Path::toFile).forEach(File::delete);
        }
    }

    /** Each row of calls, told like `pass(1) = 1; pass(0) = BAD`, is one on a new object. */
    private static void rowsOfCalls(String page) {
        Matcher span = SPAN.matcher(page);
        int rows = 0;
        while (span.find()) {
            if (!span.group(1).startsWith("due(")) {
                new House().due(span.group(1));
                rows++;
            }
        }
        Check.holds("it shows " + rows + " rows of calls", rows >= 31);
    }

    /** Every call of the class has one row, with its numbers' names, an example, and what it takes on a new object. */
    private static void everyCall(String page, String program) {
        Map<String, String> face = new HashMap<>();
        Matcher method = FACE.matcher(program);
        while (method.find()) {
            face.put(method.group(1), method.group(2).replace("int ", ""));
        }
        Check.due("calls of the class", face.size(), 31);
        Set<String> named = new TreeSet<>();
        Matcher row = CALL_ROW.matcher(page);
        while (row.find()) {
            String name = row.group(1);
            Check.holds(name + " has one row", named.add(name));
            Check.holds(name + " takes " + row.group(2), row.group(2).equals(face.get(name)));
            Check.holds(name + " has an example in its row", row.group(5).contains(name + "("));
            takes(name, row.group(2).isEmpty() ? new String[0] : row.group(2).split(", "), row.group(3));
        }
        Check.holds("the calls with a row are " + named + ", of the class " + face.keySet(), named.equals(face.keySet()));
    }

    private static void takes(String name, String[] numbers, String told) {
        Map<String, int[]> bounds = new HashMap<>();
        Matcher taken = TAKEN.matcher(told);
        while (taken.find()) {
            bounds.put(taken.group(1), new int[] {Integer.parseInt(taken.group(2)), Integer.parseInt(taken.group(3))});
        }
        Check.holds(name + ": it tells what each number can be, " + told, bounds.keySet().equals(Set.of(numbers)));
        for (String number : numbers) {
            int[] bound = bounds.getOrDefault(number, new int[] {0, 0});
            for (int n : new int[] {bound[0] - 1, bound[0], bound[1], bound[1] + 1}) {
                String call = callWith(name, numbers, bounds, number, n);
                boolean bad = new House().answer(call) == LetByColours.BAD;
                Check.holds(call + (bad ? " is BAD" : " is not BAD"), bad == (n < bound[0] || n > bound[1]));
            }
        }
    }

    /** The others are next to their lowest, so that two tenants who change are not alike. */
    private static String callWith(String name, String[] numbers, Map<String, int[]> bounds, String number, int n) {
        List<String> all = new ArrayList<>();
        for (String other : numbers) {
            all.add("" + (other.equals(number) ? n : bounds.getOrDefault(other, new int[] {0, 0})[0] + 1));
        }
        return name + "(" + String.join(", ", all) + ")";
    }

    private static void constants(String page) {
        for (String name : new String[] {"BAD", "NO", "FULL", "NONE"}) {
            Check.holds("the value of " + name + " is told", page.contains("| `" + name + "` | " + House.number(name) + " |"));
        }
    }

    /** A new object stands as one on which the text that README.md tells was laid. */
    private static void firstText(String page) {
        String first = told(page, "told by the text `([^`]+)`");
        Check.due("letters of a new object", new House().count(8), 0);
        dueAlike("a new object and " + first, new House(), Check.laid(first));
    }

    /** What is so without the items for it. */
    private static void itemsLeftOut(String page) {
        String house = "t0,0,6,5,0;t1,6,4,3,1;t2,9,5,8,2;s0,6;s8,4;";
        int ten = number(page, "P, Q and R together (\\d+) at most");
        Check.dueFault("f" + ten + ",0,0;", LetByColours.NONE);
        Check.dueFault("f" + ten + ",0,1;", 0);
        String fog = "f" + told(page, "; (\\d+, \\d+, \\d+) without").replace(" ", "") + ";";
        String limit = "b" + told(page, "; (\\d+) without") + ";";
        dueAlike("without " + fog, Check.laid(house), Check.laid(house + fog));
        dueAlike("without " + limit, Check.laid(house), Check.laid(house + limit));
    }

    /** By panes the odds of fog show, and behind seven nights who is behind. */
    private static void dueAlike(String what, House one, House other) {
        one.wipe();
        other.wipe();
        for (String act : new String[] {"smoke(13) = 1", "smoke(6) = 1", "smoke(7) = 1", "pass(7) = 7"}) {
            String got = Check.wholeOf(one.due(act));
            String due = Check.wholeOf(other.due(act));
            Check.holds(what + ", " + act + ": " + got + ", and " + due, got.equals(due));
        }
    }

    /** How much there is room for. */
    private static void rooms(String page) {
        int letters = number(page, "`write` behind (\\d+) letters");
        Check.due("letters of a text, told twice", number(page, "A text is (\\d+) letters at most"), letters);
        new House().tell("x".repeat(letters)).due("write(120) = FULL");
        int looks = number(page, "`look` behind (\\d+)");
        int kept = number(page, "`keep` behind (\\d+)");
        int undone = number(page, "the last (\\d+) can\\)");
        House x = new House();
        for (int n = 1; n <= looks; n++) {
            x.due("look(0, 0) = " + n);
        }
        for (int n = 1; n <= kept; n++) {
            x.due("keep() = " + n);
        }
        for (int n = 0; n <= undone; n++) {
            x.due("pay(0, 1) = 0");
        }
        x.due("look(0, 0) = FULL; keep() = FULL; count(6) = " + undone);
    }

    private static void lastNight(String page) {
        int last = number(page, "`pass` beyond NIGHT (\\d+)");
        Check.due("the last night, told twice", number(page, "NO above (\\d+)"), last);
        House x = new House();
        for (int night = 0; night < last; ) {
            int nights = Math.min(30, last - night);
            night += nights;
            x.due("pass(" + nights + ") = " + night);
        }
        x.due("pass(1) = NO");
    }

    private static int number(String page, String words) {
        return Integer.parseInt(told(page, words));
    }

    private static String told(String page, String words) {
        Matcher found = Pattern.compile(words).matcher(page);
        if (!found.find()) {
            throw new IllegalStateException("README.md does not tell " + words);
        }
        return found.group(1);
    }

    /** Each number of an item that is told with its bounds, and how many such items there can be. */
    private static void items(String page) {
        Matcher row = ITEM_ROW.matcher(page);
        StringBuilder letters = new StringBuilder();
        while (row.find()) {
            letters.append(row.group(1));
            Map<String, int[]> bounds = new HashMap<>();
            Matcher number = ITEM_NUMBER.matcher(row.group(3));
            while (number.find()) {
                bounds.put(number.group(1), new int[] {Integer.parseInt(number.group(2)), Integer.parseInt(number.group(3))});
            }
            for (Map.Entry<String, int[]> bound : bounds.entrySet()) {
                for (int n : new int[] {bound.getValue()[0] - 1, bound.getValue()[0], bound.getValue()[1], bound.getValue()[1] + 1}) {
                    boolean told = n >= bound.getValue()[0] && n <= bound.getValue()[1];
                    if (n >= 0) {
                        Check.dueFault(itemWith(row.group(1), row.group(2), bounds, bound.getKey(), n), told ? LetByColours.NONE : 0);
                    }
                }
            }
            Matcher most = AT_MOST.matcher(row.group(3));
            if (most.find()) {
                String item = itemWith(row.group(1), row.group(2), bounds, "", 0);
                int many = Integer.parseInt(most.group(1));
                Check.dueFault(item.repeat(many), LetByColours.NONE);
                Check.dueFault(item.repeat(many + 1), item.length() * many);
            }
        }
        Check.holds("the items are those of " + letters, letters.toString().equals("tsfb"));
    }

    private static String itemWith(String letter, String numbers, Map<String, int[]> bounds, String number, int n) {
        List<String> all = new ArrayList<>();
        for (String other : numbers.split(",")) {
            all.add("" + (other.equals(number) ? n : bounds.getOrDefault(other, new int[] {0, 0})[0]));
        }
        return letter + String.join(",", all) + ";";
    }

    private static void callsThatAnObjectIsGoodFor(String page) {
        int calls = number(page, "good for (\\d+) calls");
        Check.due("calls that an object is good for", calls, House.MOST_CALLS);
        House x = new House();
        while (x.calls() < calls) {
            x.due("smoke(13) = 1; undo() = 0");
        }
    }

    private static void tests(String page) throws IOException {
        Set<String> told = new TreeSet<>();
        Matcher row = TEST_ROW.matcher(page);
        while (row.find()) {
            told.add(row.group(1));
        }
        Set<String> there = new TreeSet<>();
        try (Stream<Path> files = Files.list(Path.of("src/test/java"))) {
            files.map(file -> file.getFileName().toString()).filter(name -> name.endsWith("Test.java"))
                .forEach(name -> there.add(name.replace(".java", "")));
        }
        Check.holds("the tests are " + there + ", it tells " + told, told.equals(there));
    }
}

import java.lang.reflect.Method;
import java.util.ArrayList;
import java.util.HashMap;
import java.util.List;
import java.util.Map;
import java.util.regex.Matcher;
import java.util.regex.Pattern;

/**
 * A LetByColours that remembers its calls, so that a twin can be led to where it stands, and that tells when it is
 * called more often than the document promises answers.
 */
final class House {
    static final int MOST_CALLS = 512;
    private static final Pattern ROW = Pattern.compile("\\s*(\\w+)\\(([^()]*)\\) = (-?\\w+)\\s*;?\\s*");
    private static final Map<String, Method> METHODS = new HashMap<>();

    static {
        for (Method m : LetByColours.class.getMethods()) {
            if (m.getDeclaringClass() == LetByColours.class) {
                METHODS.put(m.getName(), m);
            }
        }
    }

    /** A call with its numbers; two of them are compared nowhere, so the array is no trouble. */
    private record Call(String name, int... numbers) {
        private String told() {
            StringBuilder all = new StringBuilder();
            for (int number : numbers) {
                all.append(all.length() == 0 ? "" : ", ").append(number);
            }
            return name + "(" + all + ")";
        }
    }

    private final LetByColours inside = new LetByColours();
    private final List<Call> past = new ArrayList<>();

    House() { }

    private House(List<Call> calls) {
        for (Call call : calls) {
            make(call);
        }
    }

    private int make(Call call) {
        past.add(call);
        if (past.size() > MOST_CALLS) {
            Check.holds("call " + past.size() + " of one object, " + call.told() + ": its answer is free", false);
        }
        Object[] numbers = new Object[call.numbers.length];
        for (int i = 0; i < numbers.length; i++) {
            numbers[i] = call.numbers[i];
        }
        try {
            return (Integer) METHODS.get(call.name).invoke(inside, numbers);
        } catch (ReflectiveOperationException thrown) {
            throw new IllegalStateException(call.told() + " behind " + (past.size() - 1) + " calls", thrown);
        }
    }

    private int make(String name, int... numbers) {
        return make(new Call(name, numbers));
    }

    /** Another one that stands where this one stands, or where it stood some calls ago. */
    House twin(int callsAgo) {
        return new House(past.subList(0, past.size() - callsAgo));
    }

    int calls() {
        return past.size();
    }

    /** Makes calls told like "pass(1) = 1; pass(0) = BAD", each of which must answer so. */
    House due(String rows) {
        Matcher m = ROW.matcher(rows);
        int from = 0;
        while (from < rows.length()) {
            m.region(from, rows.length());
            if (!m.lookingAt()) {
                throw new IllegalArgumentException("no row of calls: " + rows.substring(from));
            }
            Call call = callOf(m.group(1), m.group(2));
            Check.due(call.told(), make(call), number(m.group(3)));
            from = m.end();
        }
        return this;
    }

    /** What a call told like "pass(1)" answers. */
    int answer(String call) {
        int open = call.indexOf('(');
        return make(callOf(call.substring(0, open), call.substring(open + 1, call.length() - 1)));
    }

    /** As due, and by none of these calls anything changes: a twin that does without it goes on alike. */
    House unchanged(String rows) {
        for (String row : rows.split(";")) {
            due(row);
            Check.changesNothing(past.get(past.size() - 1).told(), this);
        }
        return this;
    }

    private static Call callOf(String name, String list) {
        if (list.isBlank()) {
            return new Call(name);
        }
        String[] told = list.split(",");
        int[] numbers = new int[told.length];
        for (int i = 0; i < told.length; i++) {
            numbers[i] = number(told[i].trim());
        }
        return new Call(name, numbers);
    }

    static int number(String told) {
        switch (told) {
            case "BAD": return LetByColours.BAD;
            case "NO": return LetByColours.NO;
            case "FULL": return LetByColours.FULL;
            case "NONE": return LetByColours.NONE;
            case "MAX": return Integer.MAX_VALUE;
            case "MIN": return Integer.MIN_VALUE;
            default: return Integer.parseInt(told);
        }
    }

    /** Writes letters behind THE TEXT, each of which must have room. */
    House tell(String letters) {
        int length = count(8);
        for (int i = 0; i < letters.length(); i++) {
            length++;
            due("write(" + (int) letters.charAt(i) + ") = " + length);
        }
        return this;
    }

    int write(int letter) { return make("write", letter); }
    int wipe() { return make("wipe"); }
    int fault() { return make("fault"); }
    int lay() { return make("lay"); }
    int tenant(int i, int what) { return make("tenant", i, what); }
    int ship(int k, int what) { return make("ship", k, what); }
    int stripe(int s, int what) { return make("stripe", s, what); }
    int pass(int n) { return make("pass", n); }
    int pay(int i, int r) { return make("pay", i, r); }
    int change(int i, int j) { return make("change", i, j); }
    int smoke(int s) { return make("smoke", s); }
    int undo() { return make("undo"); }
    int seen(int s, int fog) { return make("seen", s, fog); }
    int sign(int k, int fog) { return make("sign", k, fog); }
    int fleet(int fog) { return make("fleet", fog); }
    int order(int i) { return make("order", i); }
    int needed(int fog) { return make("needed", fog); }
    int least(int fog) { return make("least", fog); }
    int rock(int what) { return make("rock", what); }
    int row(int a, int b, int c, int what) { return make("row", a, b, c, what); }
    int look(int s, int colour) { return make("look", s, colour); }
    int forget() { return make("forget"); }
    int behind(int what) { return make("behind", what); }
    int panes() { return make("panes"); }
    int odds(int k, int part) { return make("odds", k, part); }
    int mean(int part) { return make("mean", part); }
    int owed(int what) { return make("owed", what); }
    int weeks(int z, int n, int what) { return make("weeks", z, n, what); }
    int keep() { return make("keep"); }
    int back() { return make("back"); }
    int count(int what) { return make("count", what); }
}

import java.util.ArrayList;
import java.util.List;

/**
 * "BAD: a number is none that is told": each number of each call, the first and the last that is told, and those next to
 * them that are not. What is told depends on how many TENANTS and SHIPS there are, so it is asked of several texts.
 */
public final class NumbersEdgesTest {
    /** A call with the lowest and the highest that is told of each of its numbers. */
    private record Told(String name, int... bounds) {
        int numbers() {
            return bounds.length / 2;
        }

        boolean isAnswerable() {
            for (int n = 0; n < numbers(); n++) {
                if (bounds[2 * n] > bounds[2 * n + 1]) {
                    return false;
                }
            }
            return true;
        }
    }

    public static void main(String[] args) {
        Check.sentence("BAD: a number is none that is told (TENANTS, SHIPS, STRIPES, FOGS 0 to 3: such as there are).");
        dueFor("t0,0,6,5,0;t1,6,4,3,1;t2,9,5,8,2;t3,16,6,1,0;t1,20,2,2,3;s0,6;s8,4;s15,5;s22,4;", 5, 4);
        dueFor("t0,3,4,5,0;", 1, 0);
        dueFor("t0,3,4,5,0;t1,8,4,2,2;s3,4;", 2, 1);
        dueFor("t0,3,4,5,0;t1,8,4,2,2;t2,1,2,3,0;t3,4,5,6,1;t0,9,1,5,3;t1,23,9,9,2;s1,1;s2,2;s3,3;s4,4;s5,5;", 6, 5);
        Check.end();
    }

    private static List<Told> calls(int tenants, int ships) {
        int i = tenants - 1;
        int k = ships - 1;
        List<Told> all = new ArrayList<>();
        all.add(new Told("write", 32, 126));
        all.add(new Told("tenant", 0, i, 0, 6));
        all.add(new Told("ship", 0, k, 0, 1));
        all.add(new Told("stripe", 0, 23, 0, 2));
        all.add(new Told("pass", 1, 30));
        all.add(new Told("pay", 0, i, 1, 99));
        all.add(new Told("smoke", 0, 23));
        all.add(new Told("seen", 0, 23, 0, 3));
        all.add(new Told("sign", 0, k, 0, 3));
        all.add(new Told("fleet", -1, 3));
        all.add(new Told("order", -1, i));
        all.add(new Told("needed", 0, 3));
        all.add(new Told("least", 0, 3));
        all.add(new Told("rock", 0, 1));
        all.add(new Told("row", 0, 4, 0, 4, 0, 4, 0, 1));
        all.add(new Told("look", 0, 23, 0, 4));
        all.add(new Told("behind", 0, 1));
        all.add(new Told("odds", 0, k, 0, 1));
        all.add(new Told("mean", 0, 1));
        all.add(new Told("owed", 0, 1));
        all.add(new Told("weeks", 0, 9999, 1, 60, 0, 1));
        all.add(new Told("count", 0, 8));
        return all;
    }

    private static void dueFor(String text, int tenants, int ships) {
        House x = Check.laid(text).due("pass(1) = 1; smoke(7) = 1; keep() = 1; look(3, 0) = 1");
        for (Told told : calls(tenants, ships)) {
            dueToldOnes(x, told);
            dueNoneThatIsTold(x, told);
        }
        dueChanges(x, tenants);
    }

    /** All corners of what is told have an answer. */
    private static void dueToldOnes(House x, Told told) {
        for (int corner = 0; told.isAnswerable() && corner < 1 << told.numbers(); corner++) {
            int[] numbers = new int[told.numbers()];
            for (int n = 0; n < numbers.length; n++) {
                numbers[n] = told.bounds[2 * n + (corner >> n & 1)];
            }
            String call = call(told.name, numbers);
            int got = x.twin(0).answer(call);
            Check.holds(call + " answered " + got, got != LetByColours.BAD && got != LetByColours.NO && got != LetByColours.FULL);
        }
    }

    /** One number too small or too large, the others at either end. */
    private static void dueNoneThatIsTold(House x, Told told) {
        for (int n = 0; n < told.numbers(); n++) {
            int low = told.bounds[2 * n];
            int high = Math.max(told.bounds[2 * n + 1], low - 1);
            for (int wrong : new int[] {low - 1, high + 1, low - 2, high + 2, Integer.MIN_VALUE, Integer.MAX_VALUE}) {
                for (int end = 0; end < 2; end++) {
                    int[] numbers = new int[told.numbers()];
                    for (int other = 0; other < numbers.length; other++) {
                        numbers[other] = other == n ? wrong : told.bounds[2 * other + end];
                    }
                    x.twin(0).unchanged(call(told.name, numbers) + " = BAD");
                }
            }
        }
    }

    private static void dueChanges(House x, int tenants) {
        for (int i = -2; i <= tenants + 1; i++) {
            for (int j = -2; j <= tenants + 1; j++) {
                String call = call("change", i, j);
                if (i >= 0 && i < tenants && j >= 0 && j < tenants && i != j) {
                    Check.due(call, x.twin(0).answer(call), x.twin(0).tenant(j, 1));
                } else {
                    x.twin(0).unchanged(call + " = BAD");
                }
            }
        }
    }

    private static String call(String name, int... numbers) {
        StringBuilder all = new StringBuilder();
        for (int number : numbers) {
            all.append(all.length() == 0 ? "" : ", ").append(number);
        }
        return name + "(" + all + ")";
    }
}

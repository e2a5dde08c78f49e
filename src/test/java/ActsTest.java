/** Promises 9 to 13: pass, pay, change, smoke, undo. */
public final class ActsTest {
    public static void main(String[] args) {
        passing();
        paying();
        changing();
        smoking();
        undoingEach();
        undoingTheLastEight();
        refusedIsNoAct();
        Check.end();
    }

    private static void passing() {
        House x = new House();
        Check.due("pass(1)", x.pass(1), 1);
        Check.due("pass(30)", x.pass(30), 31);
        Check.due("count(2)", x.count(2), 31);
        int[] arrears = {155, 93, 248, 31, 62};
        for (int i = 0; i < arrears.length; i++) {
            Check.due("tenant(" + i + ", 5)", x.tenant(i, 5), arrears[i]);
        }
        for (int n : new int[] {0, -1, 31, Integer.MAX_VALUE, Integer.MIN_VALUE}) {
            Check.dueUnchanged("pass(" + n + ")", x, () -> x.pass(n), LetByColours.BAD);
        }
        for (int night = 61; night <= 991; night += 30) {
            Check.due("pass(30)", x.pass(30), night);
        }
        Check.dueUnchanged("pass(9) from 991", x, () -> x.pass(9), LetByColours.NO);
        Check.due("pass(8) from 991", x.pass(8), 999);
        Check.dueUnchanged("pass(1) from 999", x, () -> x.pass(1), LetByColours.NO);
        Check.dueUnchanged("pass(31) from 999", x, () -> x.pass(31), LetByColours.BAD);
        Check.due("ARREARS have no end", x.tenant(2, 5), 999 * 8);
    }

    private static void paying() {
        House x = new House();
        x.pass(30);
        Check.due("pay(0, 99)", x.pay(0, 99), 51);
        Check.due("pay(0, 1)", x.pay(0, 1), 50);
        Check.due("pay(0, 50)", x.pay(0, 50), 0);
        Check.due("pay(0, 1) of nothing", x.pay(0, 1), 0);
        Check.due("tenant(0, 5)", x.tenant(0, 5), 0);
        Check.due("the others owe as ahead", x.tenant(1, 5), 90);
        Check.due("pay(3, 31)", x.pay(3, 31), 0);
        Check.due("count(6)", x.count(6), 6);
        for (int[] wrong : new int[][] {{5, 1}, {-1, 1}, {0, 0}, {0, 100}, {0, -1}, {5, 0}, {Integer.MAX_VALUE, 5}}) {
            Check.dueUnchanged("pay(" + wrong[0] + ", " + wrong[1] + ")", x, () -> x.pay(wrong[0], wrong[1]),
                LetByColours.BAD);
        }
    }

    private static void changing() {
        House x = new House();
        Check.due("change(2, 0)", x.change(2, 0), 0);
        Check.due("N of 2", x.tenant(2, 2), 6);
        Check.due("A of 0", x.tenant(0, 1), 9);
        Check.due("N of 0", x.tenant(0, 2), 5);
        Check.dueColours("by the new places", x, "242424111000004433333344");
        Check.due("change(0, 2)", x.change(0, 2), 0);
        Check.dueColours("as at first", x, "000000111142424433333344");
        for (int[] wrong : new int[][] {{0, 0}, {4, 4}, {5, 0}, {0, 5}, {-1, 0}, {0, -1}, {5, 5}, {-1, -1}}) {
            Check.dueUnchanged("change(" + wrong[0] + ", " + wrong[1] + ")", x, () -> x.change(wrong[0], wrong[1]),
                LetByColours.BAD);
        }
    }

    private static void smoking() {
        House x = new House();
        Check.due("smoke(0)", x.smoke(0), 1);
        Check.due("smoke(23)", x.smoke(23), 1);
        Check.due("smoke(16)", x.smoke(16), 1);
        Check.due("count(3)", x.count(3), 3);
        Check.dueColours("smoked", x, "400000111142424443333344");
        Check.due("smoke(0), cleaned", x.smoke(0), 0);
        Check.due("count(3)", x.count(3), 2);
        Check.dueColours("cleaned", x, "000000111142424443333344");
        for (int s : new int[] {-1, 24, 32, Integer.MAX_VALUE, Integer.MIN_VALUE}) {
            Check.dueUnchanged("smoke(" + s + ")", x, () -> x.smoke(s), LetByColours.BAD);
        }
    }

    private static void undoingEach() {
        House x = new House();
        Check.dueUnchanged("undo() at first", x, x::undo, LetByColours.NO);
        String[] states = new String[5];
        states[0] = Check.stateOf(x);
        x.pass(7);
        states[1] = Check.stateOf(x);
        x.pay(0, 99);
        states[2] = Check.stateOf(x);
        x.change(1, 4);
        states[3] = Check.stateOf(x);
        x.smoke(5);
        states[4] = Check.stateOf(x);
        for (int left = 3; left >= 0; left--) {
            Check.due("undo()", x.undo(), left);
            Check.holds("undone to " + left, states[left].equals(Check.stateOf(x)));
            Check.due("count(6)", x.count(6), left);
        }
        Check.dueUnchanged("undo() of nothing", x, x::undo, LetByColours.NO);
        x.smoke(1);
        x.smoke(1);
        Check.due("undo() of cleaning", x.undo(), 1);
        Check.due("it is smoked again", x.stripe(1, 2), 1);
    }

    private static void undoingTheLastEight() {
        House x = new House();
        String[] states = new String[24];
        for (int s = 0; s < 20; s++) {
            states[s] = Check.stateOf(x);
            x.smoke(s);
            Check.due("count(6)", x.count(6), Math.min(8, s + 1));
        }
        for (int left = 7; left >= 4; left--) {
            Check.due("undo()", x.undo(), left);
            Check.holds("undone", states[12 + left].equals(Check.stateOf(x)));
        }
        for (int s = 16; s < 23; s++) {
            states[s] = Check.stateOf(x);
            x.smoke(s);
        }
        for (int left = 7; left >= 0; left--) {
            Check.due("undo()", x.undo(), left);
            Check.holds("undone", states[15 + left].equals(Check.stateOf(x)));
        }
        Check.due("undo()", x.undo(), LetByColours.NO);
        Check.due("count(3)", x.count(3), 15);
    }

    private static void refusedIsNoAct() {
        House x = new House();
        x.pass(0);
        x.pay(0, 0);
        x.change(1, 1);
        x.smoke(24);
        x.look(0, 0);
        x.keep();
        x.order(0);
        x.rock(0);
        x.weeks(1, 60, 0);
        Check.due("count(6)", x.count(6), 0);
        Check.due("undo()", x.undo(), LetByColours.NO);
        Check.due("LOOKED AT is no act", x.count(5), 1);
    }
}

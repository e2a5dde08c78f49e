/** Promises 30 to 32: keep, back, count. */
public final class KeptTest {
    public static void main(String[] args) {
        keeping();
        goingBack();
        keptStaysAsItWas();
        counting();
        Check.end();
    }

    private static void keeping() {
        House x = new House();
        Check.due("keep()", x.keep(), 1);
        x.pass(1);
        Check.due("keep()", x.keep(), 2);
        x.pass(1);
        Check.dueUnchanged("keep() behind two", x, x::keep, LetByColours.FULL);
        Check.due("back()", x.back(), 1);
        Check.due("the second one, not the refused one", x.count(2), 1);
        Check.due("keep() again", x.keep(), 2);
        Check.due("back()", x.back(), 1);
        Check.due("back()", x.back(), 0);
        Check.due("count(2)", x.count(2), 0);
    }

    private static void goingBack() {
        House x = new House();
        Check.dueUnchanged("back() at first", x, x::back, LetByColours.NO);
        x.pass(7);
        x.pay(0, 12);
        x.change(0, 4);
        x.smoke(9);
        String kept = Check.stateOf(x);
        String colours = Check.colours(x);
        x.keep();
        Check.due("keep leaves what can be UNDONE", x.count(6), 4);
        x.pass(30);
        x.pay(1, 50);
        x.change(1, 2);
        x.smoke(9);
        x.smoke(10);
        x.look(3, 3);
        Check.due("back()", x.back(), 0);
        Check.holds("all is as kept", kept.equals(Check.stateOf(x)));
        Check.holds("and shines so", colours.equals(Check.colours(x)));
        Check.due("nothing is UNDONE then", x.count(6), 0);
        Check.due("undo()", x.undo(), LetByColours.NO);
        Check.due("LOOKED AT is not kept", x.count(5), 1);
        Check.dueUnchanged("back() again", x, x::back, LetByColours.NO);
        x.smoke(1);
        Check.due("an act behind it can be", x.undo(), 0);
        Check.holds("to what was kept", kept.equals(Check.stateOf(x)));
    }

    private static void keptStaysAsItWas() {
        House x = new House();
        String first = Check.stateOf(x);
        x.keep();
        x.change(0, 1);
        x.pass(3);
        String second = Check.stateOf(x);
        x.keep();
        for (int s = 0; s < 12; s++) {
            x.smoke(s);
            x.pass(1);
        }
        for (int i = 0; i < 5; i++) {
            x.undo();
        }
        Check.due("back()", x.back(), 1);
        Check.holds("the second one", second.equals(Check.stateOf(x)));
        x.pass(4);
        Check.due("back()", x.back(), 0);
        Check.holds("the first one", first.equals(Check.stateOf(x)));
        Check.write(x, "t0,0,1,0,0;");
        x.keep();
        x.lay();
        Check.due("laid: nothing is kept", x.back(), LetByColours.NO);
    }

    private static void counting() {
        House x = Check.laid("t0,0,2,9,0;t1,2,2,8,0;t2,4,2,3,0;s0,2;s2,4;b20;");
        x.write('x');
        x.pass(3);
        x.smoke(5);
        x.smoke(20);
        x.smoke(0);
        x.look(1, 1);
        x.look(1, 2);
        x.look(1, 3);
        x.look(1, 4);
        x.look(2, 4);
        x.keep();
        int[] due = {3, 2, 3, 3, 2, 5, 4, 1, 48};
        for (int what = 0; what < due.length; what++) {
            Check.due("count(" + what + ")", x.count(what), due[what]);
        }
        for (int what : new int[] {-1, 9, Integer.MAX_VALUE, Integer.MIN_VALUE}) {
            Check.due("count(" + what + ")", x.count(what), LetByColours.BAD);
        }
    }
}

import java.util.Random;

/** Runs of 512 calls by a fixed seed, each answer held against the model's. */
public final class RandomRunsTest {
    private static final int RUNS = 240;
    private static final int CALLS = 512;
    private static final int[] EDGES = {Integer.MIN_VALUE, -2, -1, 0, 1, 2, 3, 4, 5, 6, 7, 8, 9, 23, 24, 30, 31, 60, 61, 99,
        100, 9999, 10000, Integer.MAX_VALUE};
    private final Random chance;
    private final LetByColours x = new LetByColours();
    private final Model m = new Model();
    private final int run;
    private int calls = 0;

    private RandomRunsTest(int run) {
        this.run = run;
        this.chance = new Random(77_000L + run);
    }

    public static void main(String[] args) {
        for (int run = 0; run < RUNS; run++) {
            new RandomRunsTest(run).go();
        }
        Check.end();
    }

    private void due(String call, int got, int want) {
        calls++;
        String place = "run " + run + ", call " + calls + ": " + call;
        Check.due(place, got, want);
        Check.holds(place + " answered one of the four, or 0 or more, " + got, got >= LetByColours.NONE);
    }

    private int upTo(int most) {
        return chance.nextInt(most + 1);
    }

    /** A number from 0 to most, now and then one that is out of it or at an edge. */
    private int about(int most) {
        return chance.nextInt(25) == 0 ? EDGES[chance.nextInt(EDGES.length)] : upTo(most);
    }

    private void go() {
        if (run % 4 != 0) {
            writeAndLay(false);
        }
        while (calls < CALLS - 220) {
            step();
        }
        while (calls < CALLS) {
            ask();
        }
    }

    private void step() {
        int n = chance.nextInt(100);
        if (n < 45) {
            act();
        } else if (n < 99) {
            ask();
        } else {
            writeAndLay(chance.nextInt(3) == 0);
        }
    }

    private void writeAndLay(boolean faulty) {
        String text = text();
        if (faulty) {
            text = spoilt(text);
        }
        due("wipe()", x.wipe(), m.wipe());
        for (int i = 0; i < text.length(); i++) {
            int letter = text.charAt(i);
            due("write(" + letter + ")", x.write(letter), m.write(letter));
        }
        due("fault() of " + text, x.fault(), m.fault());
        due("lay() of " + text, x.lay(), m.lay());
    }

    private String number(int low, int high) {
        int n = low + chance.nextInt(high - low + 1);
        return n < 10 && chance.nextInt(12) == 0 ? "0" + n : "" + n;
    }

    private String text() {
        StringBuilder all = new StringBuilder();
        int tenants = 1 + upTo(5);
        boolean alike = chance.nextInt(3) == 0;
        for (int i = 0; i < tenants; i++) {
            all.append('t').append(number(0, alike ? 1 : 3)).append(',').append(number(0, 23)).append(',')
                .append(number(1, chance.nextBoolean() ? 4 : 12)).append(',').append(number(0, alike ? 3 : 20)).append(',')
                .append(number(0, 3)).append(';');
        }
        int ships = upTo(5);
        for (int k = 0; k < ships; k++) {
            all.append('s').append(number(0, 23)).append(',').append(number(1, 12)).append(';');
        }
        if (chance.nextInt(3) != 0) {
            int p = upTo(10);
            int q = upTo(10 - p);
            all.append('f').append(p).append(',').append(q).append(',').append(upTo(10 - p - q)).append(';');
        }
        if (chance.nextInt(3) != 0) {
            all.append('b').append(number(0, 60)).append(';');
        }
        return all.toString();
    }

    private String spoilt(String text) {
        StringBuilder all = new StringBuilder(text);
        int at = upTo(all.length() - 1);
        switch (chance.nextInt(4)) {
            case 0: all.deleteCharAt(at); break;
            case 1: all.insert(at, "0123456789,;tsfb ".charAt(chance.nextInt(17))); break;
            case 2: all.setCharAt(at, (char) (32 + chance.nextInt(95))); break;
            default: all.setLength(at); break;
        }
        return all.toString();
    }

    private void act() {
        int i = about(m.count(0) - 1);
        int j = about(m.count(0) - 1);
        int n = about(chance.nextInt(3) == 0 ? 30 : 3);
        int r = about(99);
        int s = about(23);
        switch (chance.nextInt(10)) {
            case 0: case 1: due("pass(" + n + ")", x.pass(n), m.pass(n)); break;
            case 2: case 3: due("pay(" + i + ", " + r + ")", x.pay(i, r), m.pay(i, r)); break;
            case 4: due("change(" + i + ", " + j + ")", x.change(i, j), m.change(i, j)); break;
            case 5: case 6: due("smoke(" + s + ")", x.smoke(s), m.smoke(s)); break;
            case 7: due("undo()", x.undo(), m.undo()); break;
            case 8: due("keep()", x.keep(), m.keep()); break;
            default:
                if (chance.nextInt(3) == 0) due("back()", x.back(), m.back());
                else look();
        }
    }

    private void look() {
        int s = about(23);
        int real = m.stripe(s, 0);
        int colour = chance.nextBoolean() && real >= 0 ? real : about(4);
        due("look(" + s + ", " + colour + ")", x.look(s, colour), m.look(s, colour));
    }

    private void ask() {
        if (chance.nextBoolean()) askPlain();
        else askHard();
    }

    private void askPlain() {
        int i = about(m.count(0) - 1);
        int k = about(Math.max(0, m.count(1) - 1));
        int s = about(23);
        int fog = about(3);
        int what = about(8);
        switch (chance.nextInt(11)) {
            case 0: due("tenant(" + i + ", " + what + ")", x.tenant(i, what), m.tenant(i, what)); break;
            case 1: due("ship(" + k + ", " + what % 3 + ")", x.ship(k, what % 3), m.ship(k, what % 3)); break;
            case 2: case 3: due("stripe(" + s + ", " + what % 4 + ")", x.stripe(s, what % 4), m.stripe(s, what % 4)); break;
            case 4: due("seen(" + s + ", " + fog + ")", x.seen(s, fog), m.seen(s, fog)); break;
            case 5: case 6: due("sign(" + k + ", " + fog + ")", x.sign(k, fog), m.sign(k, fog)); break;
            case 7: due("owed(" + what % 3 + ")", x.owed(what % 3), m.owed(what % 3)); break;
            case 8:
                if (chance.nextInt(4) == 0) due("forget()", x.forget(), m.forget());
                else look();
                break;
            default: due("count(" + what + ")", x.count(what), m.count(what)); break;
        }
    }

    private void askHard() {
        int i = about(m.count(0)) - 1;
        int k = about(Math.max(0, m.count(1) - 1));
        int fog = about(3);
        int part = about(1);
        switch (chance.nextInt(14)) {
            case 0: case 1: due("fleet(" + (fog - 1) + ")", x.fleet(fog - 1), m.fleet(fog - 1)); break;
            case 2: due("order(" + i + ")", x.order(i), m.order(i)); break;
            case 3: due("needed(" + fog + ")", x.needed(fog), m.needed(fog)); break;
            case 4: due("least(" + fog + ")", x.least(fog), m.least(fog)); break;
            case 5: case 6: due("rock(" + part + ")", x.rock(part), m.rock(part)); break;
            case 7: row(part); break;
            case 8: case 9: due("behind(" + part + ")", x.behind(part), m.behind(part)); break;
            case 10: due("panes()", x.panes(), m.panes()); break;
            case 11: due("odds(" + k + ", " + part + ")", x.odds(k, part), m.odds(k, part)); break;
            case 12: due("mean(" + part + ")", x.mean(part), m.mean(part)); break;
            default:
                int z = about(9999);
                int n = about(60);
                due("weeks(" + z + ", " + n + ", " + part + ")", x.weeks(z, n, part), m.weeks(z, n, part));
        }
    }

    private void row(int what) {
        int s = upTo(23);
        int a = chance.nextBoolean() ? m.stripe(s, 0) : about(4);
        int b = chance.nextInt(3) != 0 ? m.stripe((s + 1) % 24, 0) : about(4);
        int c = chance.nextInt(3) != 0 ? m.stripe((s + 2) % 24, 0) : about(4);
        due("row(" + a + ", " + b + ", " + c + ", " + what + ")", x.row(a, b, c, what), m.row(a, b, c, what));
    }
}

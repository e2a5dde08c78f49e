/** Promises 22 to 29: look, forget, behind, panes, odds, mean, owed, weeks. */
public final class LookedAtTest {
    private static final int NONE = LetByColours.NONE;
    private static final int BAD = LetByColours.BAD;

    public static void main(String[] args) {
        looking();
        behind();
        behindByNightAndSmoke();
        panes();
        odds();
        mean();
        owed();
        weeksByDraws();
        weeksGoOn();
        weeksWrong();
        Check.end();
    }

    private static void looking() {
        House x = new House();
        Check.due("forget() of nothing", x.forget(), 0);
        for (int[] wrong : new int[][] {{24, 0}, {-1, 0}, {0, 5}, {0, -1}, {Integer.MAX_VALUE, 9}}) {
            Check.dueUnchanged("look(" + wrong[0] + ", " + wrong[1] + ")", x, () -> x.look(wrong[0], wrong[1]), BAD);
        }
        for (int many = 1; many <= 8; many++) {
            Check.due("look(23, 4)", x.look(23, 4), many);
        }
        Check.dueUnchanged("look(0, 0) behind 8", x, () -> x.look(0, 0), LetByColours.FULL);
        Check.dueUnchanged("look(24, 0) behind 8", x, () -> x.look(24, 0), BAD);
        Check.due("count(5)", x.count(5), 8);
        x.pass(1);
        x.undo();
        x.keep();
        x.back();
        Check.due("acts leave it", x.count(5), 8);
        Check.due("forget()", x.forget(), 8);
        Check.due("count(5)", x.count(5), 0);
        Check.due("look(0, 0)", x.look(0, 0), 1);
    }

    private static void dueBehind(House x, int many, int first) {
        Check.due("behind(0)", x.behind(0), many);
        Check.due("behind(1)", x.behind(1), first);
    }

    private static void behind() {
        House x = Check.laid("t0,0,4,0,0;t1,2,4,0,0;t2,0,2,1,0;t0,20,1,0,0;b0;");
        dueBehind(x, 16, 0);
        x.look(2, 1);
        dueBehind(x, 4, 1);
        x.look(0, 4);
        dueBehind(x, 2, 5);
        x.look(20, 4);
        dueBehind(x, 1, 13);
        x.look(23, 4);
        dueBehind(x, 1, 13);
        x.look(22, 3);
        dueBehind(x, 0, NONE);
        x.forget();
        x.pass(9);
        Check.due("tenant 2 is behind", x.tenant(2, 6), 1);
        dueBehind(x, 16, 0);
        x.look(0, 2);
        Check.due("but could be none: behind(0)", x.behind(0), 4);
        Check.due("behind(1)", x.behind(1), 1);
        Check.due("who is stays so", x.count(4), 1);
        x.look(2, 0);
        dueBehind(x, 0, NONE);
        Check.due("behind(2)", x.behind(2), BAD);
        Check.due("behind(-1)", x.behind(-1), BAD);
        dueBehind(Check.laid("t0,0,1,0,0;"), 2, 0);
        House six = Check.laid("t0,0,1,0,0;".repeat(6));
        dueBehind(six, 64, 0);
        six.look(0, 4);
        dueBehind(six, 1, 63);
        six.forget();
        six.look(0, 0);
        six.look(0, 1);
        six.forget();
        six.look(0, 0);
        dueBehind(six, 63, 0);
    }

    private static void behindByNightAndSmoke() {
        House x = Check.laid("t0,0,4,5,1;t0,2,4,4,3;t3,0,2,0,2;");
        x.look(0, 3);
        dueBehind(x, 2, 1);
        x.forget();
        x.look(3, 0);
        dueBehind(x, 4, 0);
        x.pass(1);
        dueBehind(x, 0, NONE);
        x.forget();
        x.look(1, 3);
        dueBehind(x, 4, 0);
        x.smoke(1);
        dueBehind(x, 0, NONE);
        x.forget();
        x.look(1, 4);
        dueBehind(x, 8, 0);
        x.look(1, 4);
        dueBehind(x, 8, 0);
    }

    private static void panes() {
        House x = new House();
        Check.due("panes() of nothing", x.panes(), 0);
        x.look(0, 4);
        Check.due("panes()", x.panes(), 1);
        x.look(0, 4);
        Check.due("each once", x.panes(), 1);
        x.look(10, 4);
        Check.due("nobody's does not count", x.panes(), 1);
        x.look(1, 0);
        Check.due("as RED does not count", x.panes(), 1);
        x.look(21, 4);
        x.look(16, 4);
        Check.due("panes()", x.panes(), 3);
        x.smoke(0);
        Check.due("smoked counts alike", x.panes(), 3);
        x.pass(5);
        Check.due("who is behind gives no light", x.panes(), 2);
        x.forget();
        Check.due("panes()", x.panes(), 0);
    }

    private static void dueOdds(House x, int k, int above, int below) {
        Check.due("odds(" + k + ", 0)", x.odds(k, 0), above);
        Check.due("odds(" + k + ", 1)", x.odds(k, 1), below);
    }

    private static final String FOUR = "t3,0,2,0,0;t2,2,2,0,0;t1,4,2,0,0;t0,6,2,0,0;s0,2;s0,4;s0,6;s2,6;s8,9;";

    private static void odds() {
        House x = Check.laid(FOUR);
        dueOdds(x, 0, 2, 5);
        dueOdds(x, 1, 7, 10);
        dueOdds(x, 2, 9, 10);
        dueOdds(x, 3, 1, 1);
        dueOdds(x, 4, 0, 1);
        House y = Check.laid(FOUR + "f1,1,3;");
        dueOdds(y, 0, 1, 10);
        dueOdds(y, 1, 1, 5);
        dueOdds(y, 2, 1, 2);
        dueOdds(y, 3, 1, 1);
        House z = Check.laid(FOUR + "f0,0,0;");
        dueOdds(z, 2, 0, 1);
        dueOdds(z, 3, 1, 1);
        House w = Check.laid(FOUR + "f2,6,2;");
        dueOdds(w, 0, 1, 5);
        dueOdds(w, 1, 4, 5);
        dueOdds(w, 2, 1, 1);
        for (int part = 0; part < 2; part++) {
            Check.due("odds(5, " + part + ")", x.odds(5, part), BAD);
            Check.due("odds(-1, " + part + ")", x.odds(-1, part), BAD);
        }
        Check.due("odds(0, 2)", x.odds(0, 2), BAD);
        Check.due("odds(0, -1)", x.odds(0, -1), BAD);
    }

    private static void dueMean(House x, int above, int below) {
        Check.due("mean(0)", x.mean(0), above);
        Check.due("mean(1)", x.mean(1), below);
    }

    private static void mean() {
        House x = Check.laid(FOUR);
        dueMean(x, 3, 1);
        dueMean(Check.laid(FOUR + "f1,1,3;"), 9, 5);
        dueMean(Check.laid(FOUR + "f0,0,0;"), 1, 1);
        dueMean(Check.laid(FOUR + "f10,0,0;"), 4, 1);
        dueMean(Check.laid(FOUR + "f0,5,0;"), 2, 1);
        dueMean(Check.laid(FOUR + "f1,0,0;"), 13, 10);
        dueMean(Check.laid(FOUR + "f1,1,0;"), 3, 2);
        dueMean(Check.laid("t0,0,1,0,0;"), 0, 1);
        dueMean(Check.laid("t0,3,1,0,0;s3,1;s2,2;s3,2;s0,12;s16,12;"), 5, 1);
        Check.due("mean(2)", x.mean(2), BAD);
        Check.due("mean(-1)", x.mean(-1), BAD);
    }

    private static void owed() {
        House x = new House();
        Check.due("owed(0)", x.owed(0), 0);
        Check.due("owed(1)", x.owed(1), 19);
        x.pass(10);
        Check.due("owed(0)", x.owed(0), 190);
        x.pay(2, 7);
        x.pay(3, 99);
        Check.due("owed(0)", x.owed(0), 190 - 7 - 10);
        Check.due("owed(1)", x.owed(1), 19);
        Check.due("owed(2)", x.owed(2), BAD);
        Check.due("owed(-1)", x.owed(-1), BAD);
        House one = Check.laid("t0,0,1,20,0;");
        Check.due("owed(1), none of those laid ahead", one.owed(1), 20);
        Check.due("owed(0)", one.owed(0), 0);
        Check.write(x, "t0,0,1,20,0;t0,0,1,19,0;");
        x.lay();
        Check.write(x, "t0,0,1,18,0;");
        x.lay();
        Check.due("owed(1), none of those two texts ahead", x.owed(1), 18);
    }

    /** The fog of the k-th night, counted with numbers that can't be too small. */
    private static int fog(long z, long k) {
        java.math.BigInteger x = java.math.BigInteger.valueOf(7919 * z + 6151 * k + 1);
        return x.pow(2).mod(java.math.BigInteger.valueOf(65521)).intValue() / 4 % 4;
    }

    private static void weeksByDraws() {
        House x = Check.laid(FOUR);
        int[] sureIn = {4, 3, 2, 1};
        // 1 by 4, cut, is 0: FOG 0 on the first night of z = 0; 6152 times 6152 modulo 65521 is 41487, by 4 10371: FOG 3.
        Check.due("weeks(0, 1, 1)", x.weeks(0, 1, 1), 4);
        Check.due("weeks(0, 2, 1)", x.weeks(0, 2, 1), 4 + 1);
        for (int z : new int[] {0, 1, 2, 77, 5000, 9998, 9999}) {
            int together = 0;
            for (int n = 1; n <= 60; n++) {
                together += sureIn[fog(z, n - 1)];
                Check.due("weeks(" + z + ", " + n + ", 1)", x.weeks(z, n, 1), together);
                Check.due("weeks(" + z + ", " + n + ", 0)", x.weeks(z, n, 0), 0);
            }
            x = Check.laid(FOUR);
        }
        House y = Check.laid("t2,0,2,0,0;t0,5,1,0,0;s0,2;s4,2;");
        int nights = 0;
        for (int n = 1; n <= 60; n++) {
            nights += fog(321, n - 1) <= 1 ? 1 : 0;
            Check.due("weeks(321, " + n + ", 0)", y.weeks(321, n, 0), nights);
            Check.due("weeks(321, " + n + ", 1)", y.weeks(321, n, 1), n + nights);
        }
        House none = Check.laid("t2,0,2,0,0;");
        Check.due("without ships all are SURE", none.weeks(5, 60, 0), 60);
        Check.due("and none, together", none.weeks(5, 60, 1), 0);
    }

    private static void weeksGoOn() {
        House rent = Check.laid("t0,0,2,3,0;s0,2;b20;");
        Check.due("7 nights until 21 in arrears", rent.weeks(3, 60, 0), 7);
        Check.due("weeks(3, 6, 0)", rent.weeks(3, 6, 0), 6);
        rent.pass(5);
        Check.due("2 nights are left", rent.weeks(3, 60, 1), 2);
        Check.due("nothing changes: the night", rent.count(2), 5);
        Check.due("nothing changes: arrears", rent.tenant(0, 5), 15);
        Check.due("nothing changes: undone", rent.count(6), 1);
        rent.pay(0, 15);
        Check.due("7 again", rent.weeks(3, 60, 0), 7);
        House moon = Check.laid("t0,0,2,0,1;s0,2;");
        Check.due("LUNAR, 7 nights from 0", moon.weeks(9, 7, 0), 4);
        moon.pass(1);
        Check.due("LUNAR, 7 nights from 1", moon.weeks(9, 7, 0), 3);
        moon.smoke(0);
        Check.due("one pane smoked", moon.weeks(9, 7, 0), 3);
        moon.smoke(1);
        Check.due("both", moon.weeks(9, 7, 0), 0);
        House late = Check.laid("t0,0,2,0,0;s0,2;");
        for (int i = 0; i < 33; i++) {
            late.pass(30);
        }
        late.pass(9);
        Check.due("beyond the last night that can be passed to", late.weeks(9999, 60, 0), 60);
    }

    private static void weeksWrong() {
        House x = new House();
        for (int[] wrong : new int[][] {{-1, 1, 0}, {10000, 1, 0}, {0, 0, 0}, {0, -1, 0}, {0, 61, 0}, {0, 1, 2}, {0, 1, -1},
            {Integer.MAX_VALUE, 1, 0}, {0, Integer.MAX_VALUE, 0}, {0, 1, Integer.MIN_VALUE}}) {
            Check.dueUnchanged("weeks(" + wrong[0] + ", " + wrong[1] + ", " + wrong[2] + ")", x,
                () -> x.weeks(wrong[0], wrong[1], wrong[2]), BAD);
        }
    }
}

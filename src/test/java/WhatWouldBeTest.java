/** Promises 17 to 21: order, needed, least, rock, row. */
public final class WhatWouldBeTest {
    private static final int NONE = LetByColours.NONE;
    private static final int BAD = LetByColours.BAD;

    public static void main(String[] args) {
        ordering();
        orderingOnThisNight();
        orderingWrong();
        needing();
        least();
        lightOfTheNextOne();
        rocks();
        rocksAmongFogs();
        rocksWhereNoneIs();
        rows();
        rowsWrong();
        Check.end();
    }

    private static void dueOrder(House x, int many, int... whose) {
        Check.due("order(-1)", x.order(-1), many);
        for (int i = 0; i < whose.length; i++) {
            Check.due("order(" + i + ")", x.order(i), whose[i]);
        }
    }

    private static void ordering() {
        // RED must come to stripe 10 alone for the ship to be sure in every fog.
        House x = Check.laid("t0,0,1,0,0;t1,5,1,0,0;t2,10,1,0,0;s10,1;");
        dueOrder(x, 1, 2, 0, 1);
        Check.dueColours("nothing changes by it", x, "044441444424444444444444");
        x.change(0, 2);
        dueOrder(x, 1, 0, 1, 2);
        x.change(0, 1);
        dueOrder(x, 1, 1, 0, 2);
        // With all six: the first way by which the last tenant gets the first one's place.
        House six = Check.laid("t3,5,1,0,0;t3,4,1,0,0;t3,3,1,0,0;t3,2,1,0,0;t3,1,1,0,0;t0,0,1,0,0;s5,1;");
        dueOrder(six, 1, 1, 2, 3, 4, 5, 0);
        // The last tenant alone shines on an odd night, and must come into the ship's sight.
        House last = Check.laid("t0,0,12,0,1;t0,12,12,0,1;t0,0,3,0,1;t0,4,1,0,1;t0,8,1,0,1;t0,6,1,0,0;s0,12;b0;");
        last.pass(1);
        dueOrder(last, 1, 0, 1, 2, 3, 4, 5);
        last.change(5, 1);
        dueOrder(last, 1, 0, 1, 2, 3, 5, 4);
        // N goes along with A.
        House wide = Check.laid("t0,0,12,0,0;t1,12,2,0,0;s12,2;s0,6;");
        dueOrder(wide, 1, 1, 0);
        // More than one ship: two reds that are apart make none sure, together they do.
        House two = Check.laid("t0,0,1,0,0;t1,1,1,0,0;t0,2,1,0,0;s0,2;s23,3;s1,2;");
        dueOrder(two, 2, 0, 2, 1);
        dueOrder(Check.laid("t0,0,1,0,0;"), 0, 0);
        dueOrder(Check.laid("t0,0,1,0,0;t1,5,1,0,0;"), 0, 0, 1);
    }

    private static void orderingOnThisNight() {
        House x = Check.laid("t0,0,2,0,2;t1,5,1,0,0;t0,10,1,9,0;s5,1;b8;");
        dueOrder(x, 0, 0, 1, 2);
        x.pass(1);
        // The second RED is behind, and SHARING on an odd night leaves the only stripe of place 1 dark.
        dueOrder(x, 0, 0, 1, 2);
        x.pass(1);
        dueOrder(x, 1, 1, 0, 2);
        x.smoke(5);
        dueOrder(x, 0, 0, 1, 2);
    }

    private static void orderingWrong() {
        House x = Check.laid("t0,0,1,0,0;t1,5,1,0,0;");
        for (int i : new int[] {2, 6, -2, Integer.MAX_VALUE, Integer.MIN_VALUE}) {
            Check.dueUnchanged("order(" + i + ")", x, () -> x.order(i), BAD);
        }
    }

    private static void needing() {
        House x = Check.laid("t0,0,2,0,0;t1,2,2,0,0;t2,4,2,0,0;t3,6,2,9,0;s0,2;s2,4;s6,2;b8;");
        int[] due = {9, 1, 3, 1};
        for (int fog = 0; fog < 4; fog++) {
            Check.due("needed(" + fog + ")", x.needed(fog), due[fog]);
        }
        Check.dueColours("nothing changes by it", x, "001122334444444444444444");
        x.pass(1);
        Check.due("who is behind gives no light", x.needed(0), 1);
        x.smoke(0);
        Check.due("needed(0)", x.needed(0), 1);
        x.smoke(1);
        Check.due("who is smoked gives none", x.needed(0), 0);
        Check.due("needed(-1)", x.needed(-1), BAD);
        Check.due("needed(4)", x.needed(4), BAD);
        // Without a light that spoils a sign more are sure, not fewer.
        House spoilt = Check.laid("t0,0,2,0,0;t0,8,2,0,0;s0,2;");
        Check.due("needed(3)", spoilt.needed(3), 0);
        House both = Check.laid("t0,0,2,0,0;t0,8,2,0,0;s0,10;s9,2;");
        Check.due("the other one is left", both.needed(3), 0);
    }

    private static void least() {
        House x = Check.laid("t0,0,2,0,0;t1,2,2,0,0;t2,4,2,0,0;t3,6,2,9,0;s0,2;s2,4;s6,2;b8;");
        int[] due = {1 + 2 + 8, 3, 3, 1};
        for (int fog = 0; fog < 4; fog++) {
            Check.due("least(" + fog + ")", x.least(fog), due[fog]);
        }
        Check.dueColours("nothing changes by it", x, "001122334444444444444444");
        x.pass(1);
        Check.due("who is behind gives no light", x.least(0), 3);
        x.smoke(2);
        x.smoke(3);
        Check.due("of 5 and 3 those that shine", x.least(0), 5);
        Check.due("least(-1)", x.least(-1), BAD);
        Check.due("least(4)", x.least(4), BAD);
        House more = Check.laid("t0,0,2,0,0;t1,9,2,0,0;t0,8,2,0,0;s0,2;s9,2;");
        Check.due("one is sure now", more.fleet(2), 2);
        Check.due("another one will do, fewer first, then the lowest", more.least(2), 1);
        House high = Check.laid("t3,0,1,0,0;t3,1,1,0,0;t3,2,1,0,0;t0,3,4,0,0;s3,4;s0,12;");
        Check.due("one high tenant is fewer than two low ones", high.least(3), 8);
        Check.due("none is needed when none is sure", Check.laid("t3,0,1,0,0;s5,1;").least(0), 0);
        Check.due("without ships", Check.laid("t3,0,1,0,0;").least(0), 0);
    }

    /** Where a tenant gives no light, the next one's comes through. */
    private static void lightOfTheNextOne() {
        House x = Check.laid("t1,0,2,0,0;t0,0,2,0,0;t0,12,2,0,0;s12,2;s0,2;");
        Check.due("fleet(3)", x.fleet(3), 1);
        Check.due("needed(3): without GREEN the RED below spoils the sign", x.needed(3), 1 + 4);
        Check.due("least(3): the RED below alone makes one sure", x.least(3), 2);
    }

    private static void rocks() {
        House x = new House();
        Check.due("rock(0)", x.rock(0), 13);
        Check.due("rock(1)", x.rock(1), 10);
        Check.due("nothing is smoked by it", x.count(3), 0);
        x.smoke(13);
        // WHITE is a sign of ship 1 now, and BLUE would be one of ship 2 but for two stripes: smoke on one is not enough.
        Check.due("rock(0), the first of several", x.rock(0), 0);
        Check.due("rock(1)", x.rock(1), 10);
        x.smoke(20);
        Check.due("rock(0)", x.rock(0), 21);
        Check.due("rock(1)", x.rock(1), 9);
        Check.due("rock(2)", x.rock(2), BAD);
        Check.due("rock(-1)", x.rock(-1), BAD);
    }

    private static void rocksAmongFogs() {
        // Smoke on 1 makes the ship sure by RED in four fogs, smoke on 5 by BLUE in one.
        House x = Check.laid("t3,4,2,0,0;t0,0,2,0,0;s0,1;s4,1;");
        Check.due("rock(0)", x.rock(0), 1);
        Check.due("rock(1)", x.rock(1), 4);
        House last = Check.laid("t1,23,1,0,0;t1,3,1,0,0;s3,1;");
        Check.due("rock(0), the last stripe", last.rock(0), 23);
        Check.due("rock(1)", last.rock(1), 1);
        House none = Check.laid("t2,7,2,0,0;");
        Check.due("rock(0) without ships", none.rock(0), 7);
        Check.due("rock(1) without ships", none.rock(1), 0);
        none.smoke(7);
        Check.due("a DARK stripe is no rock", none.rock(0), 8);
    }

    private static void rocksWhereNoneIs() {
        House x = Check.laid("t2,7,1,9,0;s7,1;b8;");
        x.smoke(7);
        Check.due("rock(0), all smoked", x.rock(0), NONE);
        Check.due("rock(1), all smoked", x.rock(1), NONE);
        Check.due("rock(2), all smoked", x.rock(2), BAD);
        x.undo();
        x.pass(1);
        Check.due("rock(0), all behind", x.rock(0), NONE);
        Check.due("rock(1), all behind", x.rock(1), NONE);
    }

    private static void dueRow(House x, int a, int b, int c, int many, int first) {
        Check.due("row(" + a + ", " + b + ", " + c + ", 0)", x.row(a, b, c, 0), many);
        Check.due("row(" + a + ", " + b + ", " + c + ", 1)", x.row(a, b, c, 1), first);
    }

    private static void rows() {
        House x = new House();
        dueRow(x, 0, 0, 0, 4, 0);
        dueRow(x, 0, 0, 1, 1, 4);
        dueRow(x, 0, 1, 1, 1, 5);
        dueRow(x, 2, 4, 2, 1, 11);
        dueRow(x, 4, 2, 4, 2, 10);
        dueRow(x, 2, 4, 4, 1, 13);
        dueRow(x, 4, 4, 0, 1, 22);
        dueRow(x, 4, 0, 0, 1, 23);
        dueRow(x, 3, 3, 3, 4, 16);
        dueRow(x, 1, 0, 0, 0, NONE);
        dueRow(x, 0, 0, 4, 0, NONE);
        dueRow(x, 4, 4, 4, 0, NONE);
        x.smoke(2);
        dueRow(x, 0, 4, 0, 1, 1);
        House dark = Check.laid("t0,0,1,0,0;");
        dueRow(dark, 4, 4, 4, 21, 1);
        dark.smoke(0);
        dueRow(dark, 4, 4, 4, 24, 0);
    }

    private static void rowsWrong() {
        House x = new House();
        for (int wrong : new int[] {-1, 5, Integer.MAX_VALUE, Integer.MIN_VALUE}) {
            for (int what = 0; what < 2; what++) {
                Check.due("row(" + wrong + ", 0, 0, " + what + ")", x.row(wrong, 0, 0, what), BAD);
                Check.due("row(0, " + wrong + ", 0, " + what + ")", x.row(0, wrong, 0, what), BAD);
                Check.due("row(0, 0, " + wrong + ", " + what + ")", x.row(0, 0, wrong, what), BAD);
            }
        }
        Check.due("row(0, 0, 0, 2)", x.row(0, 0, 0, 2), BAD);
        Check.due("row(0, 0, 0, -1)", x.row(0, 0, 0, -1), BAD);
    }
}

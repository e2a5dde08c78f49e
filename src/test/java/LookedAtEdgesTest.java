/** Each sentence on what was looked at that names a boundary, on both sides of it: promises 22 to 29. */
public final class LookedAtEdgesTest {
    /** A light of each colour, and ships with a sign in FOG 0, in 0 and 1, in 0 to 2, in all: 4, 3, 2, 1 are SURE. */
    private static final String FOUR = "t3,0,1,0,0;t2,1,1,0,0;t1,2,1,0,0;t0,3,1,0,0;s0,1;s1,1;s2,1;s3,1;";

    public static void main(String[] args) {
        stripesAndColoursLookedAt();
        eightAtMost();
        eightAlike();
        forgettingNoneAndEight();
        looksStayWithActs();
        behindOfTwo();
        nothingLookedAt();
        theLowestSet();
        noSet();
        inPlaceOfThoseWhoAre();
        panesEachOnce();
        panesAsDarkAlone();
        panesButForSmoke();
        oddsOfWhom();
        oddsInLowestTerms();
        meanOfTwo();
        meanInLowestTerms();
        meanOfNoneAndOfAll();
        owedOfTwo();
        weeksNumbers();
        weeksDraws();
        weeksFromNowOn();
        weeksArrearsGoingOn();
        weeksBeyond999();
        weeksAllShips();
        Check.end();
    }

    private static void stripesAndColoursLookedAt() {
        Check.sentence("LOOKED AT (8 at most) is that a STRIPE was of a COLOUR (0 to 4).");
        new House().due("look(0, 0) = 1; look(23, 4) = 2; look(0, 4) = 3; look(23, 0) = 4; pass(1) = 1; keep() = 1")
            .unchanged("look(24, 0) = BAD; look(-1, 0) = BAD; look(0, 5) = BAD; look(0, -1) = BAD; look(24, 5) = BAD;"
                + "look(MAX, 0) = BAD; look(MIN, 0) = BAD; look(0, MAX) = BAD; look(0, MIN) = BAD").due("count(5) = 4; look(1, 1) = 5");
    }

    private static void eightAtMost() {
        Check.sentence("LOOKED AT (8 at most)");
        House x = new House();
        for (int s = 0; s < 8; s++) {
            x.due("look(" + s + ", " + s % 5 + ") = " + (s + 1) + "; count(5) = " + (s + 1));
        }
        x.unchanged("look(8, 0) = FULL; look(0, 0) = FULL; look(23, 4) = FULL").due("count(5) = 8");
        Check.sentence("BAD; FULL. .. Of several the first");
        x.unchanged("look(24, 0) = BAD; look(0, 5) = BAD; look(-1, -1) = BAD");
        x.due("forget() = 8; look(8, 0) = 1");
    }

    private static void eightAlike() {
        Check.sentence("LOOKED AT: how many.");
        House x = new House();
        for (int many = 1; many <= 8; many++) {
            x.due("look(0, 0) = " + many);
        }
        x.unchanged("look(0, 0) = FULL").due("behind(0) = 16; behind(1) = 0");
    }

    private static void forgettingNoneAndEight() {
        Check.sentence("Nothing is LOOKED AT: how many were.");
        new House().unchanged("forget() = 0").due("look(0, 3) = 1; behind(0) = 0; forget() = 1; count(5) = 0; behind(0) = 32; forget() = 0");
        House x = new House();
        for (int s = 0; s < 8; s++) {
            x.due("look(" + s + ", 4) = " + (s + 1));
        }
        x.due("forget() = 8; panes() = 0; count(5) = 0; forget() = 0; look(0, 4) = 1; panes() = 1");
    }

    private static void looksStayWithActs() {
        Check.sentence("KEPT are NIGHTS, ARREARS, places, panes");
        new House().due("look(0, 0) = 1; keep() = 1; look(1, 0) = 2; pass(1) = 1; smoke(4) = 1; undo() = 1; count(5) = 2; back() = 0;"
            + "count(5) = 2");
    }

    private static void behindOfTwo() {
        Check.sentence("BEHIND: how many (what = 0), the first (1; NONE). BAD.");
        new House().due("look(0, 4) = 1").unchanged("behind(0) = 16; behind(1) = 1")
            .unchanged("behind(2) = BAD; behind(-1) = BAD; behind(MAX) = BAD; behind(MIN) = BAD")
            .due("look(0, 0) = 2").unchanged("behind(0) = 0; behind(1) = NONE; behind(2) = BAD");
    }

    private static void nothingLookedAt() {
        Check.sentence("BEHIND can be those sets of TENANTS .. by which all that was LOOKED AT would be so");
        Check.laid("t0,0,1,0,0;").due("behind(0) = 2; behind(1) = 0");
        Check.laid("t0,0,1,0,0;".repeat(6)).due("behind(0) = 64; behind(1) = 0");
    }

    private static void theLowestSet() {
        Check.sentence("how many; the first (bits; the lowest); none.");
        Check.laid("t0,0,1,0,0;").due("look(0, 4) = 1; behind(0) = 1; behind(1) = 1");
        Check.laid("t0,0,1,0,0;").due("look(0, 0) = 1; behind(0) = 1; behind(1) = 0");
        Check.laid("t0,0,1,0,0;".repeat(6)).due("look(0, 4) = 1; behind(0) = 1; behind(1) = 63");
        Check.laid("t0,0,1,0,0;".repeat(6)).due("look(0, 0) = 1; behind(0) = 63; behind(1) = 0");
        Check.laid("t0,0,1,0,0;t1,0,1,0,0;t2,0,1,0,0;t0,0,1,0,0;").due("look(0, 0) = 1; behind(0) = 9; behind(1) = 0; forget() = 1;"
            + "look(0, 1) = 1; behind(0) = 4; behind(1) = 1; forget() = 1; look(0, 2) = 1; behind(0) = 2; behind(1) = 3");
    }

    private static void noSet() {
        Check.sentence("how many; the first (bits; the lowest); none.");
        Check.laid("t0,0,1,0,0;").due("look(0, 1) = 1; behind(0) = 0; behind(1) = NONE");
        Check.laid("t0,0,1,0,0;").due("look(1, 4) = 1; behind(0) = 2; look(1, 0) = 2; behind(0) = 0; behind(1) = NONE");
        Check.laid("t0,0,1,0,0;").due("look(0, 0) = 1; behind(0) = 1; smoke(0) = 1; behind(0) = 0; forget() = 1; look(0, 4) = 1;"
            + "behind(0) = 2; behind(1) = 0");
        Check.laid("t0,0,1,0,1;").due("look(0, 0) = 1; behind(0) = 1; pass(1) = 1; behind(0) = 0; pass(1) = 2; behind(0) = 1");
    }

    private static void inPlaceOfThoseWhoAre() {
        Check.sentence("in place of those who are");
        House x = Check.laid("t0,0,1,20,0;t1,0,1,0,0;b0;").due("pass(1) = 1; tenant(0, 6) = 1; stripe(0, 0) = 1; behind(0) = 4");
        x.due("look(0, 0) = 1; behind(0) = 2; behind(1) = 0; forget() = 1; look(0, 1) = 1; behind(0) = 1; behind(1) = 1");
        x.due("tenant(0, 6) = 1; tenant(1, 6) = 0; count(4) = 1");
        Check.sentence("(BEHIND or not)");
        Check.laid("t0,0,1,1,3;t0,5,1,2,0;").due("look(0, 0) = 1; behind(0) = 0; behind(1) = NONE");
    }

    private static void panesEachOnce() {
        Check.sentence("PANES: how many STRIPES LOOKED AT as DARK are of somebody's light, but for SMOKE (each once).");
        House x = new House().unchanged("panes() = 0").due("look(0, 4) = 1; panes() = 1; look(0, 4) = 2; panes() = 1");
        x.due("look(5, 4) = 3; panes() = 2; look(0, 4) = 4; look(21, 4) = 5; panes() = 3").unchanged("panes() = 3");
        House eight = Check.laid("t0,23,8,0,0;");
        for (int many = 1; many <= 8; many++) {
            eight.due("look(" + (22 + many) % 24 + ", 4) = " + many + "; panes() = " + many);
        }
    }

    private static void panesAsDarkAlone() {
        Check.sentence("STRIPES LOOKED AT as DARK");
        new House().due("look(0, 0) = 1; look(1, 1) = 2; look(2, 2) = 3; look(3, 3) = 4; panes() = 0; look(3, 4) = 5; panes() = 1");
        Check.sentence("are of somebody's light");
        House x = new House().due("look(10, 4) = 1; look(14, 4) = 2; look(23, 4) = 3; panes() = 0; pass(1) = 1; panes() = 1");
        x.due("look(6, 4) = 4; panes() = 1; pass(1) = 2; panes() = 1; pass(5) = 7; panes() = 0");
    }

    private static void panesButForSmoke() {
        Check.sentence("are of somebody's light, but for SMOKE");
        new House().due("look(0, 4) = 1; smoke(0) = 1; panes() = 1; smoke(0) = 0; panes() = 1; smoke(10) = 1; look(10, 4) = 2; panes() = 1");
    }

    private static void oddsOfWhom() {
        Check.sentence("ODDS: above (part = 0), below (1). BAD.");
        House x = Check.laid(FOUR).due("odds(0, 0) = 2; odds(0, 1) = 5; odds(3, 0) = 1; odds(3, 1) = 1");
        x.unchanged("odds(4, 0) = BAD; odds(-1, 0) = BAD; odds(4, 1) = BAD; odds(-1, 1) = BAD; odds(0, 2) = BAD; odds(0, -1) = BAD;"
            + "odds(MAX, 0) = BAD; odds(MIN, 0) = BAD; odds(0, MAX) = BAD; odds(0, MIN) = BAD; odds(4, 2) = BAD");
        Check.laid("t0,0,1,0,0;").unchanged("odds(0, 0) = BAD; odds(0, 1) = BAD; odds(-1, 0) = BAD");
        Check.laid("t0,0,1,0,0;s0,1;").due("odds(0, 0) = 1; odds(0, 1) = 1").unchanged("odds(1, 0) = BAD");
    }

    private static void oddsInLowestTerms() {
        Check.sentence("ODDS of a SHIP: how likely it is SURE by the odds of FOG, in lowest terms.");
        int[] above = {0, 1, 1, 3, 2, 1, 3, 7, 4, 9, 1};
        int[] below = {1, 10, 5, 10, 5, 2, 5, 10, 5, 10, 1};
        for (int p = 0; p <= 10; p++) {
            String fraction = ", 0) = " + above[p] + "; odds(%, 1) = " + below[p] + ";";
            String rows = "odds(%" + fraction;
            Check.laid(FOUR + "f" + p + ",0,0;").due(rows.replace("%", "0") + "odds(3, 0) = 1; odds(3, 1) = 1");
            Check.laid(FOUR + "f0," + p + ",0;").due(rows.replace("%", "1") + "odds(0, 0) = 0; odds(0, 1) = 1");
            Check.laid(FOUR + "f0,0," + p + ";").due(rows.replace("%", "2") + "odds(1, 0) = 0; odds(1, 1) = 1");
        }
        Check.laid(FOUR).due("smoke(3) = 1; odds(3, 0) = 0; odds(3, 1) = 1; undo() = 0; odds(3, 0) = 1");
    }

    private static void meanOfTwo() {
        Check.sentence("MEAN: above (part = 0), below (1). BAD.");
        Check.laid(FOUR).due("mean(0) = 3; mean(1) = 1").unchanged("mean(0) = 3")
            .unchanged("mean(2) = BAD; mean(-1) = BAD; mean(MAX) = BAD; mean(MIN) = BAD");
    }

    private static void meanInLowestTerms() {
        Check.sentence("MEAN: how many are, in the mean, likewise.");
        // Three ships are SURE by p of ten, one always: 3 p and 10, by ten.
        int[] above = {1, 13, 8, 19, 11, 5, 14, 31, 17, 37, 4};
        int[] below = {1, 10, 5, 10, 5, 2, 5, 10, 5, 10, 1};
        for (int p = 0; p <= 10; p++) {
            Check.laid(FOUR + "f" + p + ",0,0;").due("mean(0) = " + above[p] + "; mean(1) = " + below[p]);
        }
    }

    private static void meanOfNoneAndOfAll() {
        Check.sentence("MEAN: how many are, in the mean, likewise.");
        Check.laid("t0,0,1,0,0;").due("mean(0) = 0; mean(1) = 1");
        Check.laid("t0,0,1,0,0;s1,1;").due("mean(0) = 0; mean(1) = 1");
        Check.laid("t0,0,1,0,0;s0,1;s0,2;s0,3;s0,4;s0,5;").due("mean(0) = 5; mean(1) = 1; smoke(0) = 1; mean(0) = 0; mean(1) = 1");
        Check.laid("t3,0,1,0,0;s0,1;s0,2;s0,3;s0,4;s0,5;f1,0,0;").due("mean(0) = 1; mean(1) = 2");
    }

    private static void owedOfTwo() {
        Check.sentence("OWED: ARREARS (what = 0), RENTS (1). BAD.");
        House x = new House().due("owed(0) = 0; owed(1) = 19; pass(30) = 30; owed(0) = 570; owed(1) = 19; pay(0, 99) = 51; owed(0) = 471");
        x.unchanged("owed(0) = 471; owed(1) = 19; owed(2) = BAD; owed(-1) = BAD; owed(MAX) = BAD; owed(MIN) = BAD");
        Check.laid("t0,0,1,0,0;").due("owed(1) = 0; pass(30) = 30; owed(0) = 0");
        Check.laid("t0,0,1,20,0;".repeat(6)).due("owed(1) = 120; pass(1) = 1; owed(0) = 120; count(4) = 0; pass(1) = 2; owed(0) = 240;"
            + "count(4) = 6; owed(1) = 120");
    }

    private static void weeksNumbers() {
        Check.sentence("WEEKS by z (0 to 9999) of n (1 to 60) NIGHTS from now on");
        House x = Check.laid(FOUR).due("pass(2) = 2; keep() = 1; smoke(9) = 1; look(0, 3) = 1");
        x.unchanged("weeks(0, 1, 1) = 4; weeks(9999, 1, 1) = 3; weeks(0, 60, 1) = 146; weeks(9999, 60, 1) = 151; weeks(0, 1, 0) = 1; weeks(9999, 1, 0) = 0");
        x.unchanged("weeks(-1, 1, 1) = BAD; weeks(10000, 1, 1) = BAD; weeks(MAX, 1, 1) = BAD; weeks(MIN, 1, 1) = BAD;"
            + "weeks(0, 0, 1) = BAD; weeks(0, 61, 1) = BAD; weeks(0, -1, 1) = BAD; weeks(0, MAX, 1) = BAD; weeks(0, MIN, 1) = BAD");
        Check.sentence("WEEKS: on how many (what = 0), together (1). BAD.");
        x.unchanged("weeks(0, 1, 2) = BAD; weeks(0, 1, -1) = BAD; weeks(0, 1, MAX) = BAD; weeks(0, 1, MIN) = BAD;"
            + "weeks(-1, 1, 0) = BAD; weeks(10000, 1, 0) = BAD; weeks(0, 0, 0) = BAD; weeks(0, 61, 0) = BAD");
    }

    private static void weeksDraws() {
        Check.sentence("DRAW being ((x times x) modulo 65521) by 4, cut, x 7919 z, 6151 k and 1 together");
        // FOGS by z = 0 are 0, 3, 2, 1, 0, 2, ..; by 9999 they are 1, 1, 0, 3, 1, 0, ..
        Check.laid(FOUR).due("weeks(0, 1, 1) = 4; weeks(0, 2, 1) = 5; weeks(0, 3, 1) = 7; weeks(0, 4, 1) = 10; weeks(0, 5, 1) = 14;"
            + "weeks(0, 6, 1) = 16; weeks(9999, 1, 1) = 3; weeks(9999, 2, 1) = 6; weeks(9999, 3, 1) = 10; weeks(9999, 4, 1) = 11;"
            + "weeks(9999, 5, 1) = 14; weeks(9999, 6, 1) = 18; weeks(1, 60, 1) = 161; weeks(9998, 60, 1) = 145;"
            + "weeks(1234, 37, 1) = 102; weeks(1234, 60, 1) = 173");
    }

    private static void weeksFromNowOn() {
        Check.sentence("the k-th (0 first; the NIGHT now)");
        House x = Check.laid("t0,0,1,0,1;s0,1;").due("weeks(5, 1, 0) = 1; weeks(5, 2, 0) = 1; weeks(5, 3, 0) = 2; weeks(5, 60, 0) = 30");
        x.due("pass(1) = 1; weeks(5, 1, 0) = 0; weeks(5, 2, 0) = 1; weeks(5, 3, 0) = 1; weeks(5, 60, 1) = 30");
        // k is counted from now on, whichever NIGHT it is.
        Check.laid(FOUR).due("weeks(9999, 3, 1) = 10; pass(1) = 1; weeks(9999, 3, 1) = 10; pass(30) = 31; weeks(9999, 3, 1) = 10");
        Check.laid("t0,0,2,0,2;s0,1;").due("weeks(5, 1, 0) = 1; weeks(5, 2, 0) = 1; weeks(5, 4, 0) = 2; pass(1) = 1; weeks(5, 1, 0) = 0");
    }

    private static void weeksArrearsGoingOn() {
        Check.sentence("ARREARS going on, nothing paid");
        House x = Check.laid("t0,0,1,20,0;s0,1;b20;").due("weeks(7, 1, 0) = 1; weeks(7, 2, 0) = 2; weeks(7, 3, 0) = 2; weeks(7, 60, 1) = 2");
        x.due("pass(1) = 1; weeks(7, 60, 0) = 1; pass(1) = 2; weeks(7, 60, 0) = 0; pay(0, 20) = 20; weeks(7, 60, 0) = 1; pay(0, 99) = 0;"
            + "weeks(7, 60, 0) = 2; tenant(0, 5) = 0; count(2) = 2");
        Check.sentence("each goes by behind it");
        Check.laid("t0,0,1,1,0;s0,1;b0;").due("weeks(7, 1, 0) = 1; weeks(7, 60, 0) = 1");
        Check.laid("t0,0,1,1,0;s0,1;b58;").due("weeks(7, 60, 0) = 59");
        Check.laid("t0,0,1,1,0;s0,1;b59;").due("weeks(7, 60, 0) = 60");
    }

    private static void weeksBeyond999() {
        Check.sentence("n (1 to 60) NIGHTS from now on");
        House x = Check.laid("t0,0,1,0,1;s0,1;");
        for (int night = 30; night <= 990; night += 30) {
            x.due("pass(30) = " + night);
        }
        x.due("pass(9) = 999; weeks(2, 1, 0) = 0; weeks(2, 2, 0) = 1; weeks(2, 60, 1) = 30").unchanged("weeks(2, 60, 0) = 30");
    }

    private static void weeksAllShips() {
        Check.sentence("on how many all SHIPS are SURE; how many are SURE, together");
        Check.laid("t0,0,1,0,0;s0,1;s0,2;s0,3;s0,4;s0,5;").due("weeks(3, 60, 0) = 60; weeks(3, 60, 1) = 300");
        Check.laid("t0,0,1,0,0;s0,1;s0,2;s0,3;s0,4;s1,5;").due("weeks(3, 60, 0) = 0; weeks(3, 60, 1) = 240");
        // By z = 0 the first six FOGS are 0, 3, 2, 1, 0, 2: BLUE is seen in two of them.
        Check.laid("t0,0,1,0,0;t3,5,1,0,0;s0,1;s5,1;").due("weeks(0, 6, 0) = 2; weeks(0, 6, 1) = 8");
        Check.laid("t0,0,1,0,0;").due("weeks(3, 60, 0) = 60; weeks(3, 1, 0) = 1; weeks(3, 60, 1) = 0");
    }
}

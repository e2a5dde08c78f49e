/** Each sentence on what would be that names a boundary, on both sides of it: promises 17 to 21. */
public final class WhatWouldBeEdgesTest {
    /** A light of each colour, and ships with a sign in FOG 0, in 0 and 1, in 0 to 2, in all, in none. */
    private static final String FOUR = "t3,0,1,0,0;t2,1,1,0,0;t1,2,1,0,0;t0,3,1,0,0;s0,1;s1,1;s2,1;s3,1;s4,1;";

    public static void main(String[] args) {
        orderOfWhom();
        orderOfOneAndOfSix();
        orderTheFirstOfSeveral();
        orderTheLastWay();
        orderWithTheirN();
        orderOfPlacesAsTheyAre();
        orderInAnyFog();
        orderOnThisNight();
        neededInFogs();
        fewerAndNotAsMany();
        neededWhoGivesNone();
        leastInFogs();
        asManyOrMore();
        ofFewestTheLowest();
        leastOfNoneAndOfAll();
        rockOfTwo();
        rockThatIsNotDark();
        rockTheFirstOfSeveral();
        rockInEachOfTheFour();
        noRock();
        coloursOfARow();
        rowsBeyond23();
        rowsOfAllAndOfNone();
        Check.end();
    }

    private static void orderOfWhom() {
        Check.sentence("ORDER: how many (i = -1), whose place a TENANT gets. BAD.");
        new House().due("order(-1) = 1; order(0) = 0; order(4) = 4")
            .unchanged("order(5) = BAD; order(6) = BAD; order(-2) = BAD; order(MAX) = BAD; order(MIN) = BAD");
        Check.laid("t0,0,1,0,0;").due("order(0) = 0").unchanged("order(1) = BAD; order(-2) = BAD");
        Check.laid("t0,0,1,0,0;".repeat(6)).due("order(5) = 5").unchanged("order(6) = BAD");
    }

    private static void dueOrder(House x, int many, int... whose) {
        x.unchanged("order(-1) = " + many);
        for (int i = 0; i < whose.length; i++) {
            x.due("order(" + i + ") = " + whose[i]);
        }
    }

    private static void orderOfOneAndOfSix() {
        Check.sentence("of all ways to give TENANTS their places (A and N) anew, each one of those that they all have");
        dueOrder(Check.laid("t0,5,1,0,0;"), 0, 0);
        dueOrder(Check.laid("t0,5,1,0,0;s5,1;"), 1, 0);
        dueOrder(Check.laid("t0,5,1,0,0;s6,1;"), 0, 0);
        dueOrder(Check.laid("t3,5,1,0,0;t3,4,1,0,0;t3,3,1,0,0;t3,2,1,0,0;t3,1,1,0,0;t0,0,1,0,0;s5,1;"), 1, 1, 2, 3, 4, 5, 0);
        dueOrder(Check.laid("t0,5,1,0,0;t3,4,1,0,0;t3,3,1,0,0;t3,2,1,0,0;t3,1,1,0,0;t3,0,1,0,0;s0,1;"), 1, 5, 0, 1, 2, 3, 4);
    }

    private static void orderTheFirstOfSeveral() {
        Check.sentence("of several the first (by whose place TENANT 0 gets, the lowest, then 1, ..)");
        dueOrder(Check.laid("t3,0,1,0,0;t3,1,1,0,0;t3,2,1,0,0;s0,3;"), 0, 0, 1, 2);
        dueOrder(Check.laid("t0,0,1,0,0;t0,1,1,0,0;t0,2,1,0,0;s0,3;"), 1, 0, 1, 2);
        dueOrder(Check.laid("t0,0,1,0,0;t1,1,1,0,0;t1,2,1,0,0;t1,3,1,0,0;s2,2;"), 1, 2, 0, 1, 3);
        dueOrder(Check.laid("t1,0,1,0,0;t0,1,1,0,0;t1,2,1,0,0;t1,3,1,0,0;s2,2;"), 1, 0, 2, 1, 3);
        dueOrder(Check.laid("t1,0,1,0,0;t1,1,1,0,0;t0,2,1,0,0;s0,2;"), 1, 0, 2, 1);
        // Two places that are alike are two ways; the first TENANT of several on a place hides the others.
        dueOrder(Check.laid("t0,7,1,0,0;t1,4,1,0,0;t1,4,1,0,0;s4,1;"), 1, 1, 0, 2);
        dueOrder(Check.laid("t0,4,1,0,0;t1,4,1,0,0;t1,7,1,0,0;s4,1;"), 1, 0, 1, 2);
        dueOrder(Check.laid("t1,7,1,0,0;t1,4,1,0,0;t0,4,1,0,0;s4,1;"), 0, 0, 1, 2);
    }

    private static void orderTheLastWay() {
        Check.sentence("of all ways to give TENANTS their places (A and N) anew");
        dueOrder(Check.laid("t0,9,1,0,0;t1,3,1,0,0;s3,1;"), 1, 1, 0);
        // RED must be 0, 1 (PLAIN) and 10 (SHARING, on a place of two): each other way has 11 or 20, which is not seen.
        dueOrder(Check.laid("t0,20,1,0,0;t0,10,2,0,2;t3,0,2,0,0;s0,11;"), 1, 2, 1, 0);
        // Of all 720 the last: RED is 1 alone then, the others' RED is below GREEN; each other way has RED where fewer see it.
        dueOrder(Check.laid("t0,7,7,0,0;t1,13,4,0,0;t0,10,5,0,0;t1,22,3,0,0;t0,15,11,0,0;t1,1,1,0,0;s0,6;s20,10;s19,7;s8,12;s15,12;"),
            4, 5, 4, 3, 2, 1, 0);
    }

    private static void orderWithTheirN() {
        Check.sentence("their places (A and N)");
        dueOrder(Check.laid("t0,0,12,0,0;t1,12,2,0,0;s12,2;s0,6;"), 1, 1, 0);
        dueOrder(Check.laid("t0,0,2,0,0;t1,0,12,0,0;s0,12;s0,2;"), 2, 0, 1);
        dueOrder(Check.laid("t0,0,12,0,0;t1,0,2,0,0;s0,12;s0,2;"), 2, 1, 0);
        dueOrder(Check.laid("t0,5,1,0,0;t1,23,12,0,0;s23,12;s22,1;"), 1, 0, 1);
        dueOrder(Check.laid("t0,22,1,0,0;t1,23,12,0,0;s23,12;"), 1, 1, 0);
    }

    private static void orderOfPlacesAsTheyAre() {
        Check.sentence("each one of those that they all have");
        House x = Check.laid("t0,0,1,0,0;t1,5,1,0,0;t2,10,1,0,0;s10,1;");
        dueOrder(x, 1, 2, 0, 1);
        x.change(0, 2);
        dueOrder(x, 1, 0, 1, 2);
        x.undo();
        x.change(1, 2);
        dueOrder(x, 1, 1, 0, 2);
    }

    private static void orderInAnyFog() {
        Check.sentence("that by which most SHIPS are SURE in any FOG");
        House x = Check.laid("t0,0,1,0,0;t1,3,1,0,0;t2,6,1,0,0;s3,1;s6,1;s5,2;").due("fleet(2) = 1; fleet(0) = 7; fleet(3) = 0");
        dueOrder(x, 2, 2, 0, 1);
    }

    private static void orderOnThisNight() {
        Check.sentence("On this NIGHT.");
        House x = Check.laid("t0,0,1,0,1;t1,3,1,0,0;s3,1;");
        dueOrder(x, 1, 1, 0);
        x.pass(1);
        dueOrder(x, 0, 0, 1);
        x.pass(1);
        dueOrder(x, 1, 1, 0);
        x.smoke(3);
        dueOrder(x, 0, 0, 1);
        House behind = Check.laid("t0,0,1,5,0;t1,3,1,0,0;s3,1;b5;").due("pass(1) = 1");
        dueOrder(behind, 1, 1, 0);
        behind.pass(1);
        dueOrder(behind, 0, 0, 1);
        House sharing = Check.laid("t0,0,1,0,2;t1,3,2,0,0;s4,1;");
        dueOrder(sharing, 0, 0, 1);
        sharing.pass(1);
        dueOrder(sharing, 1, 1, 0);
    }

    private static void neededInFogs() {
        Check.sentence("NEEDED, as bits. BAD.");
        House x = Check.laid(FOUR).due("needed(0) = 15; needed(1) = 14; needed(2) = 12; needed(3) = 8").unchanged("needed(0) = 15");
        x.unchanged("needed(4) = BAD; needed(-1) = BAD; needed(-2) = BAD; needed(MAX) = BAD; needed(MIN) = BAD");
        Check.laid("t0,0,1,0,0;").due("needed(0) = 0; needed(3) = 0").unchanged("needed(4) = BAD; needed(-1) = BAD");
        Check.laid("t1,0,1,0,0;".repeat(5) + "t0,5,1,0,0;s5,1;").due("needed(3) = 32; needed(0) = 32");
    }

    /** Without GREEN on 20 the RED below it spoils a sign, and another one is no longer spoilt: as many are SURE. */
    private static final String TURNED = "t1,20,1,0,0;t0,20,1,0,0;t1,9,1,0,0;t0,0,1,0,0;s0,1;s9,1;";

    private static void fewerAndNotAsMany() {
        Check.sentence("TENANTS (bits) without whose light fewer SHIPS were SURE.");
        Check.laid(TURNED).due("fleet(2) = 1; needed(2) = 8; fleet(3) = 1; needed(3) = 9");
        Check.laid("t0,0,1,0,0;t0,1,1,0,0;s0,2;").due("fleet(3) = 1; needed(3) = 0; smoke(1) = 1; needed(3) = 1");
        Check.laid("t0,0,1,0,0;t0,8,1,0,0;s0,1;").due("fleet(3) = 0; needed(3) = 0; smoke(8) = 1; fleet(3) = 1; needed(3) = 1");
    }

    private static void neededWhoGivesNone() {
        Check.sentence("TENANTS (bits) without whose light fewer SHIPS were SURE.");
        House x = Check.laid("t0,0,1,5,0;t1,3,1,0,1;s0,1;s3,1;b5;").due("needed(2) = 3; pass(1) = 1; needed(2) = 1; pass(1) = 2");
        x.due("tenant(0, 6) = 1; needed(2) = 2; pass(1) = 3; needed(2) = 0");
        Check.laid("t0,0,1,0,0;t1,0,1,0,0;s0,1;").due("needed(0) = 0; needed(2) = 0; needed(3) = 1");
    }

    private static void leastInFogs() {
        Check.sentence("LEAST, as bits. BAD.");
        House x = Check.laid(FOUR).due("least(0) = 15; least(1) = 14; least(2) = 12; least(3) = 8").unchanged("least(0) = 15");
        x.unchanged("least(4) = BAD; least(-1) = BAD; least(-2) = BAD; least(MAX) = BAD; least(MIN) = BAD");
        Check.laid("t0,0,1,0,0;").due("least(0) = 0; least(3) = 0").unchanged("least(4) = BAD; least(-1) = BAD");
    }

    private static void asManyOrMore() {
        Check.sentence("sets of TENANTS by whose light alone as many SHIPS are SURE as now, or more");
        Check.laid(TURNED).due("least(2) = 4; least(3) = 8");
        // Now one of two is SURE; by RED on 0 alone both are.
        Check.laid("t0,0,1,0,0;t0,9,1,0,0;t1,5,1,0,0;s0,1;s23,2;s5,1;").due("fleet(2) = 4; least(2) = 1; fleet(3) = 0; least(3) = 0");
    }

    private static void ofFewestTheLowest() {
        Check.sentence("that of fewest, of several the lowest (bits)");
        Check.laid("t0,0,1,0,0;t0,1,1,0,0;t0,2,1,0,0;s0,3;").due("least(3) = 1; smoke(0) = 1; least(3) = 2; smoke(1) = 1; least(3) = 4");
        Check.laid("t3,0,1,0,0;t2,1,1,0,0;t1,2,1,0,0;t0,3,1,0,0;s0,4;s3,1;").due("least(0) = 8; least(3) = 8");
        Check.laid("t2,0,1,0,0;t1,5,1,0,0;t3,0,1,0,0;t3,5,1,0,0;s0,1;s5,1;").due("fleet(0) = 3; least(0) = 3; least(1) = 3; least(2) = 2");
        Check.laid("t1,9,1,0,0;".repeat(5) + "t0,5,1,0,0;s5,1;").due("least(3) = 32; least(2) = 32");
    }

    private static void leastOfNoneAndOfAll() {
        Check.sentence("LEAST in a FOG: of sets of TENANTS");
        Check.laid("t0,0,1,0,0;s1,1;").due("least(0) = 0; least(3) = 0");
        Check.laid("t0,0,1,0,0;s0,1;").due("least(0) = 1; least(3) = 1; smoke(0) = 1; least(0) = 0");
        Check.laid("t3,0,1,0,0;t2,1,1,0,0;t1,2,1,0,0;t0,3,1,0,0;s0,1;s1,1;s2,1;s3,1;").due("least(0) = 15");
        House behind = Check.laid("t0,0,1,5,0;t0,0,1,0,0;s0,1;b5;").due("pass(1) = 1; least(3) = 1; pass(1) = 2; tenant(0, 6) = 1");
        behind.due("fleet(3) = 1; least(3) = 2");
    }

    private static void rockOfTwo() {
        Check.sentence("ROCK: the STRIPE (what = 0), how many (1). NONE; BAD.");
        Check.laid(FOUR).due("rock(0) = 0; rock(1) = 11").unchanged("rock(0) = 0; rock(1) = 11")
            .unchanged("rock(2) = BAD; rock(-1) = BAD; rock(MAX) = BAD; rock(MIN) = BAD");
    }

    private static void rockThatIsNotDark() {
        Check.sentence("the STRIPE that is not DARK, by whose pane being SMOKED, too, fewest SHIPS are not SURE");
        House x = Check.laid("t0,22,4,0,0;s22,1;").due("rock(0) = 0; rock(1) = 4; smoke(0) = 1; rock(0) = 1; smoke(1) = 1");
        x.due("rock(0) = 23; rock(1) = 0; smoke(23) = 1; rock(0) = 22; rock(1) = 4; smoke(22) = 1; rock(0) = NONE; rock(1) = NONE");
        Check.laid("t0,23,1,0,0;").due("rock(0) = 23; rock(1) = 0");
        Check.laid("t0,0,1,0,0;").due("rock(0) = 0; rock(1) = 0");
        Check.laid("t0,0,1,0,0;s0,1;s0,1;s0,1;s0,1;s0,1;").due("rock(0) = 0; rock(1) = 20");
    }

    private static void rockTheFirstOfSeveral() {
        Check.sentence("of several the first: it");
        Check.laid("t0,5,3,0,0;s5,3;").due("rock(0) = 5; rock(1) = 0");
        Check.laid("t1,4,1,0,0;t0,5,3,0,0;t1,8,1,0,0;s4,4;").due("rock(0) = 4; rock(1) = 0");
        // RED makes the ship SURE in each FOG; GREEN ahead of it and behind it does not count.
        Check.laid("t0,5,1,0,0;t1,4,3,0,0;s5,1;").due("rock(0) = 4; rock(1) = 0");
    }

    private static void rockInEachOfTheFour() {
        Check.sentence("(counted in each of the four FOGS, all together)");
        // Smoke on 20 leaves RED on 1 alone: all four FOGS; smoke on 8 BLUE on 4 alone: FOG 0.
        Check.laid("t3,4,1,0,0;t3,8,1,0,0;t0,1,1,0,0;t0,20,1,0,0;s4,1;s1,1;").due("rock(0) = 20; rock(1) = 4");
        Check.laid("t3,4,1,0,0;t3,8,1,0,0;s4,1;").due("rock(0) = 8; rock(1) = 3");
        Check.laid("t2,4,1,0,0;t2,8,1,0,0;s4,1;").due("rock(0) = 8; rock(1) = 2");
        Check.laid("t1,4,1,0,0;t1,8,1,0,0;s4,1;").due("rock(0) = 8; rock(1) = 1");
        Check.laid("t0,4,1,0,0;t0,8,1,0,0;s4,1;").due("rock(0) = 8; rock(1) = 0");
    }

    private static void noRock() {
        Check.sentence("none (all are DARK)");
        House x = Check.laid("t0,0,2,5,0;s0,1;b5;").due("smoke(0) = 1; rock(0) = 1; rock(1) = 4; smoke(1) = 1");
        x.unchanged("rock(0) = NONE; rock(1) = NONE").due("undo() = 1; pass(1) = 1; rock(0) = 1; pass(1) = 2");
        x.unchanged("rock(0) = NONE; rock(1) = NONE").due("pay(0, 5) = 5; rock(0) = 1");
        Check.sentence("BAD .. NONE .. Of several the first");
        Check.laid("t0,0,1,0,0;").due("smoke(0) = 1").unchanged("rock(2) = BAD; rock(-1) = BAD; rock(0) = NONE");
    }

    private static void coloursOfARow() {
        Check.sentence("ROW of three COLOURS a, b, c (0 to 4)");
        House x = Check.laid("t0,0,1,0,0;t1,1,1,0,0;t2,2,1,0,0;t3,3,1,0,0;");
        x.due("row(0, 1, 2, 0) = 1; row(0, 1, 2, 1) = 0; row(1, 2, 3, 1) = 1; row(2, 3, 4, 1) = 2; row(3, 4, 4, 1) = 3;"
            + "row(4, 4, 4, 1) = 4; row(4, 4, 4, 0) = 18; row(4, 4, 0, 1) = 22; row(4, 0, 1, 1) = 23");
        for (String wrong : new String[] {"-1", "5", "MAX", "MIN"}) {
            x.unchanged("row(" + wrong + ", 1, 2, 0) = BAD; row(0, " + wrong + ", 2, 0) = BAD; row(0, 1, " + wrong + ", 0) = BAD;"
                + "row(" + wrong + ", 1, 2, 1) = BAD; row(0, " + wrong + ", 2, 1) = BAD; row(0, 1, " + wrong + ", 1) = BAD");
        }
        Check.sentence("ROW: how many (what = 0), the first (1; NONE). BAD.");
        x.unchanged("row(0, 1, 2, 2) = BAD; row(0, 1, 2, -1) = BAD; row(0, 1, 2, MAX) = BAD; row(0, 1, 2, MIN) = BAD");
        x.unchanged("row(3, 2, 1, 1) = NONE; row(3, 2, 1, 0) = 0; row(3, 2, 1, 2) = BAD; row(5, 2, 1, 2) = BAD");
    }

    private static void rowsBeyond23() {
        Check.sentence("on how many STRIPES it begins (a on it, b on the next one, c behind that)");
        Check.laid("t0,21,3,0,0;").due("row(0, 0, 0, 0) = 1; row(0, 0, 0, 1) = 21; row(0, 0, 4, 1) = 22; row(0, 4, 4, 1) = 23");
        Check.laid("t0,22,3,0,0;").due("row(0, 0, 0, 0) = 1; row(0, 0, 0, 1) = 22; row(0, 0, 4, 1) = 23; row(0, 4, 4, 1) = 0");
        Check.laid("t0,23,3,0,0;").due("row(0, 0, 0, 0) = 1; row(0, 0, 0, 1) = 23; row(0, 0, 4, 1) = 0; row(4, 0, 0, 1) = 22");
        Check.laid("t0,22,2,0,0;t0,4,2,0,0;").due("row(0, 0, 4, 0) = 2; row(0, 0, 4, 1) = 4; row(4, 0, 0, 0) = 2; row(4, 0, 0, 1) = 3");
    }

    private static void rowsOfAllAndOfNone() {
        Check.sentence("on how many STRIPES it begins .. the first; none");
        House whole = Check.laid("t1,0,12,0,0;t1,12,12,0,0;").due("row(1, 1, 1, 0) = 24; row(1, 1, 1, 1) = 0; row(4, 4, 4, 0) = 0");
        whole.due("row(4, 4, 4, 1) = NONE; smoke(0) = 1; row(1, 1, 1, 0) = 21; row(1, 1, 1, 1) = 1; row(1, 4, 1, 1) = 23");
        House x = new House();
        String twice = Check.colours(x).repeat(2);
        for (int a = 0; a <= 4; a++) {
            for (int b = 0; b <= 4; b++) {
                for (int c = 0; c <= 4; c++) {
                    dueRow(x, twice, "" + a + b + c, "row(" + a + ", " + b + ", " + c);
                }
            }
        }
    }

    private static void dueRow(House x, String twice, String three, String call) {
        int many = 0;
        for (int s = 0; s < 24; s++) {
            many += twice.startsWith(three, s) ? 1 : 0;
        }
        int first = twice.indexOf(three);
        x.due(call + ", 0) = " + many + "; " + call + ", 1) = " + (first < 0 ? "NONE" : "" + first));
    }
}

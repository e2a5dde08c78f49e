/** Each sentence on SHIPS that names a boundary, on both sides of it: promises 14 to 16. */
public final class ShipsEdgesTest {
    /** A light of each colour, and ships with a sign in FOG 0, in 0 and 1, in 0 to 2, in all, in none. */
    private static final String FOUR = "t3,0,1,0,0;t2,1,1,0,0;t1,2,1,0,0;t0,3,1,0,0;s0,1;s1,1;s2,1;s3,1;s4,1;";

    public static void main(String[] args) {
        coloursInFogs();
        seenFromWhere();
        signsInFogs();
        signOfWhom();
        onAnyAndOnNoneOfAllOthers();
        theFirstSign();
        shipsBeyond23();
        sureOrNot();
        fleetInFogs();
        anyFog();
        fleetOfAllAndOfNone();
        Check.end();
    }

    private static void coloursInFogs() {
        Check.sentence("In FOG 0 all COLOURS are SEEN, in FOG 1 all but BLUE, in FOG 2 RED and GREEN, in FOG 3 RED alone.");
        House x = Check.laid(FOUR);
        x.due("seen(3, 0) = 1; seen(3, 1) = 1; seen(3, 2) = 1; seen(3, 3) = 1");
        x.due("seen(2, 0) = 1; seen(2, 1) = 1; seen(2, 2) = 1; seen(2, 3) = 0");
        x.due("seen(1, 0) = 1; seen(1, 1) = 1; seen(1, 2) = 0; seen(1, 3) = 0");
        x.due("seen(0, 0) = 1; seen(0, 1) = 0; seen(0, 2) = 0; seen(0, 3) = 0");
        x.due("seen(4, 0) = 0; seen(4, 1) = 0; seen(4, 2) = 0; seen(4, 3) = 0");
        x.due("smoke(3) = 1; seen(3, 0) = 0; seen(3, 3) = 0");
    }

    private static void seenFromWhere() {
        Check.sentence("1 if a STRIPE's COLOUR is SEEN in a FOG, 0. BAD.");
        House x = Check.laid("t0,23,2,0,0;").due("seen(0, 0) = 1; seen(23, 0) = 1; seen(23, 3) = 1; seen(1, 0) = 0; seen(22, 3) = 0");
        x.unchanged("seen(24, 0) = BAD; seen(-1, 0) = BAD; seen(0, 4) = BAD; seen(0, -1) = BAD; seen(24, 4) = BAD;"
            + "seen(MAX, 0) = BAD; seen(MIN, 0) = BAD; seen(0, MAX) = BAD; seen(0, MIN) = BAD");
    }

    private static void signsInFogs() {
        Check.sentence("The first SIGN of a SHIP in a FOG. NONE; BAD.");
        House x = Check.laid(FOUR);
        x.due("sign(0, 0) = 3; sign(0, 1) = NONE; sign(0, 2) = NONE; sign(0, 3) = NONE");
        x.due("sign(1, 0) = 2; sign(1, 1) = 2; sign(1, 2) = NONE; sign(1, 3) = NONE");
        x.due("sign(2, 0) = 1; sign(2, 1) = 1; sign(2, 2) = 1; sign(2, 3) = NONE");
        x.due("sign(3, 0) = 0; sign(3, 1) = 0; sign(3, 2) = 0; sign(3, 3) = 0");
        x.due("sign(4, 0) = NONE; sign(4, 1) = NONE; sign(4, 2) = NONE; sign(4, 3) = NONE");
    }

    private static void signOfWhom() {
        Check.sentence("The first SIGN of a SHIP in a FOG. NONE; BAD.");
        Check.laid(FOUR).unchanged("sign(5, 0) = BAD; sign(-1, 0) = BAD; sign(0, 4) = BAD; sign(0, -1) = BAD; sign(5, 4) = BAD;"
            + "sign(MAX, 0) = BAD; sign(MIN, 0) = BAD; sign(0, MAX) = BAD; sign(0, MIN) = BAD");
        Check.laid("t0,0,1,0,0;").unchanged("sign(0, 0) = BAD; sign(0, 3) = BAD; sign(-1, 0) = BAD");
        Check.laid("t0,0,1,0,0;s0,1;").due("sign(0, 3) = 0").unchanged("sign(1, 0) = BAD");
    }

    private static void onAnyAndOnNoneOfAllOthers() {
        Check.sentence("a COLOUR that is SEEN on any of the STRIPES that it sees, and on none of all others");
        Check.laid("t0,5,4,0,0;s5,4;").due("sign(0, 3) = 0");
        Check.laid("t0,5,4,0,0;s5,3;").due("sign(0, 3) = NONE");
        Check.laid("t0,5,4,0,0;s6,3;").due("sign(0, 3) = NONE; smoke(5) = 1; sign(0, 3) = 0");
        Check.laid("t0,5,4,0,0;s4,12;").due("sign(0, 3) = 0; smoke(5) = 1; smoke(6) = 1; smoke(7) = 1; sign(0, 3) = 0;"
            + "smoke(8) = 1; sign(0, 3) = NONE");
        Check.laid("t0,5,1,0,0;s6,12;").due("sign(0, 3) = NONE");
        Check.laid("t0,5,1,0,0;t0,20,1,0,0;s5,1;").due("sign(0, 3) = NONE; smoke(20) = 1; sign(0, 3) = 0");
    }

    private static void theFirstSign() {
        Check.sentence("The first SIGN of a SHIP in a FOG.");
        House x = Check.laid("t3,0,1,0,0;t2,1,1,0,0;t1,2,1,0,0;t0,3,1,0,0;s0,4;");
        x.due("sign(0, 0) = 0; smoke(3) = 1; sign(0, 0) = 1; sign(0, 3) = NONE; smoke(2) = 1; sign(0, 0) = 2; sign(0, 1) = 2;"
            + "sign(0, 2) = NONE; smoke(1) = 1; sign(0, 0) = 3; sign(0, 1) = NONE; smoke(0) = 1; sign(0, 0) = NONE");
        Check.laid("t0,0,1,0,0;t1,1,1,0,0;t0,9,1,0,0;s0,2;").due("sign(0, 0) = 1; sign(0, 2) = 1; sign(0, 3) = NONE");
    }

    /** Each sight there is, held against a count that goes from stripe to stripe, 0 behind 23. */
    private static void shipsBeyond23() {
        Check.sentence("There are 24 STRIPES, 23 ahead of 0 again.");
        for (int lit = 0; lit < 24; lit++) {
            for (int n = 1; n <= 12; n++) {
                for (int first = 0; first < 24; first += 4) {
                    dueSight(lit, first, n);
                }
            }
        }
        Check.laid("t0,23,1,0,0;s23,1;s0,1;s12,12;s13,12;s0,12;").due("fleet(3) = 13");
        Check.laid("t0,0,1,0,0;s23,1;s0,1;s12,12;s13,12;s23,2;").due("fleet(3) = 26");
    }

    private static void dueSight(int lit, int first, int n) {
        StringBuilder text = new StringBuilder("t0," + lit + ",1,0,0;");
        int due = 0;
        for (int k = 0; k < 4; k++) {
            text.append("s").append(first + k).append(",").append(n).append(";");
            for (int s = first + k, left = n; left > 0; left--) {
                due |= s == lit ? 1 << k : 0;
                s = s == 23 ? 0 : s + 1;
            }
        }
        Check.due("fleet(3) of " + text, Check.laid(text.toString()).fleet(3), due);
    }

    private static void sureOrNot() {
        Check.sentence("SURE is a SHIP that has one.");
        House x = Check.laid("t1,0,2,0,0;t3,6,1,0,0;s0,2;s0,1;s6,1;s7,1;").due("fleet(0) = 5; fleet(1) = 1; fleet(2) = 1; fleet(3) = 0");
        x.due("smoke(1) = 1; fleet(0) = 7; fleet(2) = 3; smoke(0) = 1; fleet(0) = 4; fleet(2) = 0");
    }

    private static void fleetInFogs() {
        Check.sentence("FLEET, as bits; ANY FOG (fog = -1). BAD.");
        House x = Check.laid(FOUR).due("fleet(0) = 15; fleet(1) = 14; fleet(2) = 12; fleet(3) = 8; fleet(-1) = 8");
        x.unchanged("fleet(4) = BAD; fleet(-2) = BAD; fleet(5) = BAD; fleet(MAX) = BAD; fleet(MIN) = BAD");
    }

    private static void anyFog() {
        Check.sentence("ANY FOG: those that are in each of the four.");
        House x = Check.laid("t1,0,1,0,0;t0,5,1,0,0;s0,1;s5,1;s0,6;").due("fleet(2) = 7; fleet(3) = 6; fleet(-1) = 6");
        x.due("smoke(5) = 1; fleet(0) = 5; fleet(2) = 5; fleet(3) = 0; fleet(-1) = 0");
    }

    private static void fleetOfAllAndOfNone() {
        Check.sentence("SHIPS (bits) that are SURE");
        Check.laid("t0,3,1,0,0;").due("fleet(-1) = 0; fleet(0) = 0; fleet(3) = 0");
        House x = Check.laid("t0,3,1,0,0;s3,1;s2,2;s3,2;s0,12;s16,12;").due("fleet(-1) = 31; fleet(0) = 31; fleet(3) = 31");
        x.due("smoke(3) = 1; fleet(-1) = 0; fleet(0) = 0");
        Check.laid("t0,3,1,0,0;s4,1;s4,2;s4,12;s20,7;s3,1;").due("fleet(3) = 16; fleet(-1) = 16");
    }
}

/** Each sentence on STRIPES that names a boundary, on both sides of it: promises 6 to 8, and section 2. */
public final class StripesEdgesTest {
    public static void main(String[] args) {
        whatOfATenant();
        whatOfAShip();
        whatOfAStripe();
        tenantsSuchAsThereAre();
        shipsSuchAsThereAre();
        placesBeyond23();
        changedPlacesBeyond23();
        firstByNumber();
        notBehind();
        plainAlways();
        lunarOnEvenNights();
        sharingEverySecond();
        sharingBeyond23();
        proudByRent();
        proudByBehind();
        proudByColour();
        nobodys();
        smoked();
        Check.end();
    }

    private static void whatOfATenant() {
        Check.sentence("COLOUR (what = 0), A (1), N (2), RENT (3), KIND (4), ARREARS (5), 1 if he is BEHIND (6). BAD.");
        House x = Check.laid("t3,23,12,20,1;t0,1,2,7,3;b20;").due("pass(1) = 1");
        x.due("tenant(0, 0) = 3; tenant(0, 1) = 23; tenant(0, 2) = 12; tenant(0, 3) = 20; tenant(0, 4) = 1; tenant(0, 5) = 20;"
            + "tenant(0, 6) = 0; tenant(1, 0) = 0; tenant(1, 5) = 7; tenant(1, 6) = 0");
        x.due("pass(1) = 2; tenant(0, 5) = 40; tenant(0, 6) = 1; tenant(1, 5) = 14; tenant(1, 6) = 0");
        x.unchanged("tenant(0, 7) = BAD; tenant(0, -1) = BAD; tenant(0, MAX) = BAD; tenant(0, MIN) = BAD");
    }

    private static void whatOfAShip() {
        Check.sentence("Of a SHIP: A (what = 0), N (1). BAD.");
        Check.laid("t0,0,1,0,0;s23,12;s0,1;").due("ship(0, 0) = 23; ship(0, 1) = 12; ship(1, 0) = 0; ship(1, 1) = 1")
            .unchanged("ship(0, 2) = BAD; ship(0, -1) = BAD; ship(0, MAX) = BAD; ship(0, MIN) = BAD");
    }

    private static void whatOfAStripe() {
        Check.sentence("COLOUR (what = 0), whose it is (1; NONE), 1 if its pane is SMOKED (2). BAD.");
        House x = Check.laid("t1,23,2,0,0;").due("smoke(0) = 1");
        x.due("stripe(23, 0) = 1; stripe(23, 1) = 0; stripe(23, 2) = 0; stripe(0, 0) = 4; stripe(0, 1) = 0; stripe(0, 2) = 1;"
            + "stripe(1, 0) = 4; stripe(1, 1) = NONE; stripe(1, 2) = 0");
        x.unchanged("stripe(23, 3) = BAD; stripe(0, 3) = BAD; stripe(0, -1) = BAD; stripe(0, MAX) = BAD; stripe(0, MIN) = BAD");
        Check.sentence("There are 24 STRIPES");
        for (int what = 0; what <= 2; what++) {
            x.unchanged("stripe(24, " + what + ") = BAD; stripe(-1, " + what + ") = BAD; stripe(MAX, " + what + ") = BAD");
        }
        x.unchanged("stripe(MIN, 0) = BAD; stripe(24, 3) = BAD; stripe(32, 2) = BAD");
    }

    private static void tenantsSuchAsThereAre() {
        Check.sentence("(TENANTS, SHIPS, STRIPES, FOGS 0 to 3: such as there are)");
        Check.laid("t1,0,1,0,0;").due("tenant(0, 0) = 1").unchanged("tenant(1, 0) = BAD; tenant(5, 0) = BAD; tenant(6, 0) = BAD;"
            + "tenant(-1, 0) = BAD; tenant(MAX, 0) = BAD; tenant(MIN, 0) = BAD; tenant(1, 7) = BAD");
        House x = Check.laid("t1,0,1,0,0;t2,0,1,0,0;t3,0,1,0,0;t1,0,1,0,0;t2,0,1,0,0;t3,7,1,0,0;");
        x.due("tenant(5, 1) = 7").unchanged("tenant(6, 1) = BAD; tenant(-1, 1) = BAD");
        Check.write(x, "t2,4,1,0,0;t1,3,1,0,0;");
        x.due("lay() = 2; tenant(1, 1) = 3").unchanged("tenant(2, 1) = BAD; tenant(5, 1) = BAD; tenant(2, 5) = BAD");
    }

    private static void shipsSuchAsThereAre() {
        Check.sentence("(TENANTS, SHIPS, STRIPES, FOGS 0 to 3: such as there are)");
        Check.laid("t1,0,1,0,0;").unchanged("ship(0, 0) = BAD; ship(-1, 0) = BAD; ship(0, 1) = BAD; ship(MAX, 0) = BAD");
        House x = Check.laid("t1,0,1,0,0;s1,2;s2,3;s3,4;s4,5;s5,6;").due("ship(4, 1) = 6");
        x.unchanged("ship(5, 1) = BAD; ship(-1, 1) = BAD; ship(MIN, 1) = BAD");
        Check.write(x, "t1,0,1,0,0;s9,8;");
        x.due("lay() = 1; ship(0, 0) = 9").unchanged("ship(1, 0) = BAD; ship(4, 0) = BAD");
    }

    /** Each place there is, held against a count that goes from stripe to stripe, 0 behind 23. */
    private static void placesBeyond23() {
        Check.sentence("There are 24 STRIPES, 23 ahead of 0 again.");
        for (int a = 0; a < 24; a++) {
            for (int n = 1; n <= 12; n++) {
                char[] due = "4".repeat(24).toCharArray();
                for (int s = a, left = n; left > 0; left--) {
                    due[s] = '2';
                    s = s == 23 ? 0 : s + 1;
                }
                Check.dueColours("t2," + a + "," + n, Check.laid("t2," + a + "," + n + ",0,0;"), new String(due));
            }
        }
    }

    private static void changedPlacesBeyond23() {
        Check.sentence("There are 24 STRIPES, 23 ahead of 0 again.");
        House x = Check.laid("t1,23,12,0,0;t0,11,1,0,0;");
        Check.dueColours("to 10", x, "111111111110444444444441");
        x.change(0, 1);
        Check.dueColours("the other one", x, "000000000001444444444440");
    }

    private static void firstByNumber() {
        Check.sentence("A STRIPE is of the first TENANT (by number) on whose it is");
        House x = Check.laid("t3,2,1,0,0;t2,1,3,0,0;t1,0,5,0,0;t0,4,1,0,0;");
        Check.dueColours("the first of several", x, "123214444444444444444444");
        x.due("stripe(0, 1) = 2; stripe(1, 1) = 1; stripe(2, 1) = 0; stripe(3, 1) = 1; stripe(4, 1) = 2; stripe(5, 1) = NONE");
    }

    private static void notBehind() {
        Check.sentence("who is not BEHIND");
        House x = Check.laid("t1,0,2,5,0;t0,1,2,0,0;b10;").due("pass(2) = 2; tenant(0, 5) = 10; stripe(0, 1) = 0; stripe(1, 1) = 0");
        x.due("pass(1) = 3; stripe(0, 1) = NONE; stripe(1, 1) = 1; stripe(1, 0) = 0; stripe(0, 0) = 4");
        x.due("pay(0, 4) = 11; stripe(1, 1) = 1; pay(0, 1) = 10; stripe(1, 1) = 0; stripe(0, 1) = 0");
    }

    private static void plainAlways() {
        Check.sentence("a PLAIN one always");
        House x = Check.laid("t0,0,1,0,0;t0,1,1,20,1;").due("stripe(0, 0) = 0; pass(1) = 1; stripe(0, 0) = 0; pass(1) = 2");
        x.due("stripe(0, 0) = 0; pass(30) = 32; pass(29) = 61; stripe(0, 0) = 0");
    }

    private static void lunarOnEvenNights() {
        Check.sentence("a LUNAR one on NIGHTS of even number");
        House x = Check.laid("t0,23,2,0,1;t1,0,1,0,0;");
        x.due("stripe(23, 1) = 0; stripe(0, 1) = 0; pass(1) = 1; stripe(23, 1) = NONE; stripe(0, 1) = 1;"
            + "pass(1) = 2; stripe(23, 1) = 0; stripe(0, 1) = 0; pass(2) = 4; stripe(0, 1) = 0; pass(3) = 7; stripe(0, 1) = 1");
        for (int night = 37; night <= 997; night += 30) {
            x.due("pass(30) = " + night);
        }
        x.due("stripe(0, 1) = 1; pass(1) = 998; stripe(0, 1) = 0; pass(1) = 999; stripe(0, 1) = 1; undo() = 7; stripe(0, 1) = 0");
    }

    private static void sharingEverySecond() {
        Check.sentence("the first one, the third, .. on NIGHTS of even number, the others else");
        String[] even = {"1", "14", "141", "1414", "14141", "141414", "1414141", "14141414", "141414141", "1414141414",
            "14141414141", "141414141414"};
        for (int n = 1; n <= 12; n++) {
            String dark = "4".repeat(24 - n);
            House x = Check.laid("t1,0," + n + ",0,2;");
            Check.dueColours("N " + n + ", even", x, even[n - 1] + dark);
            x.pass(1);
            Check.dueColours("N " + n + ", odd", x, ("4" + even[n - 1]).substring(0, n) + dark);
            x.pass(1);
            Check.dueColours("N " + n + ", even again", x, even[n - 1] + dark);
        }
    }

    private static void sharingBeyond23() {
        Check.sentence("a SHARING one on every second of his STRIPES");
        House x = Check.laid("t1,22,3,0,2;t0,21,5,0,0;");
        Check.dueColours("his first is 22, his third is 0", x, "104444444444444444444010");
        x.due("stripe(22, 1) = 0; stripe(23, 1) = 1; stripe(0, 1) = 0; stripe(1, 1) = 1");
        x.pass(1);
        Check.dueColours("his second is 23", x, "004444444444444444444001");
        House y = Check.laid("t1,23,2,0,2;");
        Check.dueColours("his first is 23", y, "444444444444444444444441");
        y.pass(1);
        Check.dueColours("his second is 0", y, "144444444444444444444444");
    }

    private static void proudByRent() {
        Check.sentence("a PROUD one, if no other TENANT of his COLOUR (BEHIND or not) has more RENT");
        Check.laid("t0,0,1,5,3;").due("stripe(0, 0) = 0");
        Check.laid("t0,0,1,5,3;t0,1,1,4,0;").due("stripe(0, 0) = 0; stripe(1, 0) = 0");
        Check.laid("t0,0,1,5,3;t0,1,1,5,0;").due("stripe(0, 0) = 0");
        Check.laid("t0,0,1,5,3;t0,1,1,6,0;").due("stripe(0, 0) = 4; stripe(0, 1) = NONE; stripe(1, 0) = 0");
        Check.laid("t0,0,1,6,0;t0,1,1,5,3;").due("stripe(0, 0) = 0; stripe(1, 0) = 4");
        Check.laid("t0,0,1,5,3;t0,1,1,5,3;").due("stripe(0, 0) = 0; stripe(1, 0) = 0");
        Check.laid("t0,0,1,0,3;t0,1,1,20,3;").due("stripe(0, 0) = 4; stripe(1, 0) = 0");
        Check.laid("t0,0,1,19,3;t1,9,1,0,0;t1,9,1,0,0;t1,9,1,0,0;t1,9,1,0,0;t0,1,1,20,1;").due("stripe(0, 0) = 4; pass(1) = 1;"
            + "stripe(0, 0) = 4");
    }

    private static void proudByBehind() {
        Check.sentence("(BEHIND or not)");
        House x = Check.laid("t0,0,1,5,3;t0,1,1,6,0;b5;").due("stripe(0, 0) = 4; pass(1) = 1; tenant(1, 6) = 1; tenant(0, 6) = 0");
        x.due("stripe(1, 0) = 4; stripe(0, 0) = 4; pass(1) = 2; pay(1, 99) = 0; stripe(1, 0) = 0; stripe(0, 0) = 4");
    }

    private static void proudByColour() {
        Check.sentence("no other TENANT of his COLOUR");
        Check.laid("t0,0,1,0,3;t1,1,1,20,0;t2,2,1,20,0;t3,3,1,20,0;").due("stripe(0, 0) = 0");
        Check.laid("t3,0,1,0,3;t1,1,1,20,0;t2,2,1,20,0;t3,3,1,1,0;").due("stripe(0, 0) = 4");
        Check.sentence("by KIND shines there");
        Check.laid("t0,0,1,1,3;t1,0,1,0,0;t0,5,1,2,0;").due("stripe(0, 1) = 1; stripe(0, 0) = 1");
    }

    private static void nobodys() {
        Check.sentence("if it is nobody's, or its pane is SMOKED, it is DARK (4)");
        House x = Check.laid("t3,5,1,0,0;");
        Check.dueColours("all but one", x, "444443444444444444444444");
        x.due("stripe(4, 1) = NONE; stripe(5, 1) = 0; stripe(6, 1) = NONE");
        House whole = Check.laid("t0,0,12,0,0;t1,12,12,0,0;");
        Check.dueColours("none", whole, "000000000000111111111111");
    }

    private static void smoked() {
        Check.sentence("if it is nobody's, or its pane is SMOKED, it is DARK (4)");
        House x = Check.laid("t0,0,12,0,0;t1,12,12,0,0;");
        for (int s = 0; s < 24; s++) {
            x.due("smoke(" + s + ") = 1; stripe(" + s + ", 0) = 4; stripe(" + s + ", 1) = " + s / 12);
        }
        Check.dueColours("all", x, "4".repeat(24));
        x.due("count(3) = 24; smoke(23) = 0; smoke(0) = 0; count(3) = 22");
        Check.dueColours("but for the first and the last", x, "0" + "4".repeat(22) + "1");
    }
}

/** Each sentence on acts that names a boundary, on both sides of it: promises 9 to 13. */
public final class ActsEdgesTest {
    public static void main(String[] args) {
        oneToThirtyNights();
        above999();
        arrearsOfEach();
        arrearsHaveNoEnd();
        oneTo99();
        zeroAtLeast();
        paidByOneAlone();
        tenantsWhoCanPay();
        tenantsWhoCanChange();
        alike();
        changeBringsBoth();
        aOfTheFirstOne();
        panesFrom0To23();
        smokedOrCleaned();
        nothingToUndo();
        eightActs();
        nineActs();
        undoneOneByOne();
        actsBehindUndone();
        refusedActsCanNotBeUndone();
        whatIsNoAct();
        fiveHundredAndTwelveCalls();
        Check.end();
    }

    private static void oneToThirtyNights() {
        Check.sentence("n (1 to 30) NIGHTS go by: which one it is. BAD");
        for (int n = 1; n <= 30; n++) {
            new House().due("pass(" + n + ") = " + n + "; count(2) = " + n + "; owed(0) = " + 19 * n + "; count(6) = 1");
        }
        new House().due("pass(2) = 2; smoke(1) = 1; keep() = 1")
            .unchanged("pass(0) = BAD; pass(-1) = BAD; pass(31) = BAD; pass(32) = BAD; pass(60) = BAD; pass(MAX) = BAD; pass(MIN) = BAD")
            .due("pass(30) = 32; pass(1) = 33");
    }

    private static House onNight(int night) {
        House x = new House();
        int now = 0;
        while (now < night) {
            int n = Math.min(30, night - now);
            now += n;
            x.due("pass(" + n + ") = " + now);
        }
        return x;
    }

    private static void above999() {
        Check.sentence("NO: above 999.");
        onNight(969).due("pass(30) = 999");
        onNight(970).unchanged("pass(30) = NO").due("count(2) = 970; pass(29) = 999");
        onNight(998).unchanged("pass(2) = NO; pass(30) = NO").due("pass(1) = 999").unchanged("pass(1) = NO; pass(30) = NO")
            .due("count(2) = 999; undo() = 7; count(2) = 998; pass(1) = 999");
        Check.sentence("BAD; NO: above 999. .. Of several the first");
        onNight(999).unchanged("pass(0) = BAD; pass(31) = BAD; pass(MAX) = BAD; pass(MIN) = BAD; pass(-999) = BAD");
    }

    private static void arrearsOfEach() {
        Check.sentence("A NIGHT goes by: ARREARS of each are R more.");
        House x = Check.laid("t0,0,1,0,0;t1,1,1,1,1;t2,2,1,20,2;t3,3,1,19,3;b60;");
        x.due("pass(1) = 1; tenant(0, 5) = 0; tenant(1, 5) = 1; tenant(2, 5) = 20; tenant(3, 5) = 19");
        x.due("pass(30) = 31; tenant(0, 5) = 0; tenant(1, 5) = 31; tenant(2, 5) = 620; tenant(3, 5) = 589");
        x.due("tenant(0, 6) = 0; tenant(1, 6) = 0; tenant(2, 6) = 1; tenant(3, 6) = 1; count(4) = 2");
        // Who is BEHIND owes on.
        x.due("pass(1) = 32; tenant(2, 5) = 640");
    }

    private static void arrearsHaveNoEnd() {
        Check.sentence("A NIGHT goes by: ARREARS of each are R more.");
        House x = Check.laid("t0,0,1,20,0;".repeat(6));
        for (int night = 30; night <= 990; night += 30) {
            x.due("pass(30) = " + night);
        }
        x.due("pass(9) = 999; tenant(0, 5) = 19980; tenant(5, 5) = 19980; owed(0) = 119880; pay(5, 99) = 19881");
    }

    private static void oneTo99() {
        Check.sentence("RENT is paid (1 to 99): ARREARS that are left. BAD.");
        House x = new House().due("pass(30) = 30; pay(2, 1) = 239; pay(2, 99) = 140; keep() = 1");
        x.unchanged("pay(2, 0) = BAD; pay(2, -1) = BAD; pay(2, 100) = BAD; pay(2, MAX) = BAD; pay(2, MIN) = BAD");
        x.due("tenant(2, 5) = 140; count(6) = 3; undo() = 2; tenant(2, 5) = 239");
    }

    private static void zeroAtLeast() {
        Check.sentence("ARREARS of one are so much less, 0 at least");
        new House().due("pass(2) = 2; pay(0, 9) = 1; pay(0, 1) = 0; pay(0, 1) = 0; tenant(0, 5) = 0; pass(1) = 3; tenant(0, 5) = 5");
        new House().due("pass(2) = 2; pay(0, 10) = 0; tenant(0, 5) = 0");
        new House().due("pass(2) = 2; pay(0, 11) = 0; tenant(0, 5) = 0; pass(1) = 3; tenant(0, 5) = 5");
        new House().due("pass(2) = 2; pay(0, 99) = 0; pass(1) = 3; tenant(0, 5) = 5; undo() = 2; undo() = 1; tenant(0, 5) = 10");
        new House().due("pay(0, 99) = 0; tenant(0, 5) = 0; owed(0) = 0; count(6) = 1; undo() = 0; tenant(0, 5) = 0; undo() = NO");
    }

    private static void paidByOneAlone() {
        Check.sentence("ARREARS of one are so much less");
        new House().due("pass(10) = 10; pay(4, 7) = 13; tenant(0, 5) = 50; tenant(1, 5) = 30; tenant(2, 5) = 80; tenant(3, 5) = 10;"
            + "tenant(4, 5) = 13; owed(0) = 183; owed(1) = 19");
    }

    private static void tenantsWhoCanPay() {
        Check.sentence("(TENANTS, SHIPS, STRIPES, FOGS 0 to 3: such as there are)");
        new House().due("pass(1) = 1; pay(0, 1) = 4; pay(4, 1) = 1")
            .unchanged("pay(5, 1) = BAD; pay(-1, 1) = BAD; pay(6, 1) = BAD; pay(MAX, 1) = BAD; pay(MIN, 99) = BAD; pay(5, 0) = BAD");
        Check.laid("t0,0,1,3,0;").due("pass(1) = 1; pay(0, 1) = 2").unchanged("pay(1, 1) = BAD; pay(-1, 1) = BAD");
        Check.laid("t0,0,1,3,0;".repeat(6)).due("pass(1) = 1; pay(5, 1) = 2").unchanged("pay(6, 1) = BAD");
    }

    private static void tenantsWhoCanChange() {
        Check.sentence("Two TENANTS change their places: A of the first one then. BAD (alike, too).");
        House x = new House().due("change(0, 4) = 20; change(4, 0) = 20; keep() = 1");
        x.unchanged("change(5, 0) = BAD; change(0, 5) = BAD; change(-1, 0) = BAD; change(0, -1) = BAD; change(5, -1) = BAD;"
            + "change(6, 5) = BAD; change(MAX, 0) = BAD; change(0, MIN) = BAD; change(MIN, MAX) = BAD");
        Check.laid("t0,0,1,3,0;".repeat(6)).due("change(0, 5) = 0").unchanged("change(0, 6) = BAD; change(6, 0) = BAD");
        Check.laid("t0,0,1,3,0;t0,1,1,3,0;").due("change(1, 0) = 0").unchanged("change(1, 2) = BAD; change(2, 1) = BAD");
    }

    private static void alike() {
        Check.sentence("BAD (alike, too).");
        new House().due("pass(1) = 1").unchanged("change(0, 0) = BAD; change(2, 2) = BAD; change(4, 4) = BAD; change(5, 5) = BAD;"
            + "change(-1, -1) = BAD; change(MAX, MAX) = BAD");
        Check.laid("t0,7,1,3,0;").unchanged("change(0, 0) = BAD; change(0, 1) = BAD; change(1, 0) = BAD");
        Check.sentence("Two TENANTS change their places");
        Check.laid("t0,7,1,3,0;t1,7,1,2,0;").due("change(0, 1) = 7; count(6) = 1; undo() = 0");
    }

    private static void changeBringsBoth() {
        Check.sentence("Two TENANTS change their places (A; with their N).");
        House x = Check.laid("t0,23,12,3,1;t1,0,1,4,2;t2,5,6,7,3;").due("pass(2) = 2; change(0, 1) = 0");
        x.due("tenant(0, 0) = 0; tenant(0, 1) = 0; tenant(0, 2) = 1; tenant(0, 3) = 3; tenant(0, 4) = 1; tenant(0, 5) = 6");
        x.due("tenant(1, 0) = 1; tenant(1, 1) = 23; tenant(1, 2) = 12; tenant(1, 3) = 4; tenant(1, 4) = 2; tenant(1, 5) = 8");
        x.due("tenant(2, 0) = 2; tenant(2, 1) = 5; tenant(2, 2) = 6; tenant(2, 3) = 7; tenant(2, 4) = 3; tenant(2, 5) = 14");
        x.due("change(1, 2) = 5; tenant(1, 2) = 6; tenant(2, 1) = 23; tenant(2, 2) = 12; tenant(0, 1) = 0");
    }

    private static void aOfTheFirstOne() {
        Check.sentence("A of the first one then.");
        new House().due("change(1, 3) = 16; change(1, 3) = 6; change(3, 1) = 6; change(3, 1) = 16; change(3, 0) = 0; change(0, 1) = 6");
    }

    private static void panesFrom0To23() {
        Check.sentence("A pane is SMOKED, or cleaned: 1, 0. BAD.");
        House x = new House();
        for (int s = 0; s < 24; s++) {
            x.due("smoke(" + s + ") = 1; count(3) = " + (s + 1));
        }
        x.unchanged("smoke(24) = BAD; smoke(-1) = BAD; smoke(31) = BAD; smoke(32) = BAD; smoke(MAX) = BAD; smoke(MIN) = BAD");
        for (int s = 23; s >= 0; s--) {
            x.due("smoke(" + s + ") = 0; count(3) = " + s);
        }
        x.unchanged("smoke(24) = BAD; smoke(-1) = BAD; smoke(32) = BAD");
    }

    private static void smokedOrCleaned() {
        Check.sentence("A pane is SMOKED, or cleaned: 1, 0.");
        House x = new House().due("smoke(23) = 1; stripe(23, 2) = 1; stripe(22, 2) = 0; stripe(0, 2) = 0; smoke(23) = 0");
        x.due("stripe(23, 2) = 0; smoke(23) = 1; smoke(0) = 1; stripe(0, 0) = 4; smoke(0) = 0; stripe(0, 0) = 0; count(3) = 1");
    }

    private static void nothingToUndo() {
        Check.sentence("UNDONE: how many more can be. NO.");
        new House().unchanged("undo() = NO; undo() = NO").due("count(6) = 0");
        new House().due("pass(1) = 1; undo() = 0").unchanged("undo() = NO").due("count(2) = 0; count(6) = 0");
        House x = new House().due("pass(3) = 3; keep() = 1; look(1, 1) = 1; undo() = 0").unchanged("undo() = NO");
        x.due("count(7) = 1; count(5) = 1");
    }

    private static void eightActs() {
        Check.sentence("UNDONE is the latest of these (the last 8 can be).");
        House x = new House();
        for (int s = 0; s < 7; s++) {
            x.due("smoke(" + s + ") = 1; count(6) = " + (s + 1));
        }
        x.due("smoke(7) = 1; count(6) = 8");
        for (int left = 7; left >= 0; left--) {
            x.due("undo() = " + left + "; count(6) = " + left + "; count(3) = " + left + "; stripe(" + left + ", 2) = 0");
        }
        x.unchanged("undo() = NO").due("count(3) = 0");
    }

    private static void nineActs() {
        Check.sentence("UNDONE is the latest of these (the last 8 can be).");
        House x = new House();
        for (int s = 0; s < 9; s++) {
            x.due("smoke(" + s + ") = 1; count(6) = " + Math.min(8, s + 1));
        }
        for (int left = 7; left >= 0; left--) {
            x.due("undo() = " + left + "; count(3) = " + (left + 1));
        }
        x.unchanged("undo() = NO").due("count(3) = 1; stripe(0, 2) = 1; stripe(1, 2) = 0");
        for (int more = 1; more <= 20; more++) {
            x.due("pass(1) = " + more + "; count(6) = " + Math.min(8, more));
        }
        for (int left = 7; left >= 0; left--) {
            x.due("undo() = " + left + "; count(2) = " + (12 + left) + "; tenant(0, 5) = " + 5 * (12 + left));
        }
        x.unchanged("undo() = NO");
    }

    private static void undoneOneByOne() {
        Check.sentence("UNDONE is the latest of these");
        House x = new House().due("pass(30) = 30; pay(0, 99) = 51; pay(0, 99) = 0; change(0, 1) = 6; smoke(5) = 1; smoke(5) = 0");
        x.due("undo() = 5; stripe(5, 2) = 1; undo() = 4; stripe(5, 2) = 0; undo() = 3; tenant(0, 1) = 0; tenant(0, 2) = 6;"
            + "tenant(1, 1) = 6; tenant(1, 2) = 4; undo() = 2; tenant(0, 5) = 51; undo() = 1; tenant(0, 5) = 150; undo() = 0;"
            + "tenant(0, 5) = 0; count(2) = 0; owed(0) = 0").unchanged("undo() = NO");
        // n NIGHTS that go by in one call are one act.
        new House().due("pass(7) = 7; pass(30) = 37; undo() = 1; count(2) = 7; tenant(2, 5) = 56; undo() = 0; count(2) = 0");
    }

    private static void actsBehindUndone() {
        Check.sentence("UNDONE is the latest of these (the last 8 can be).");
        House x = new House();
        for (int n = 1; n <= 8; n++) {
            x.due("pass(1) = " + n);
        }
        x.due("undo() = 7; undo() = 6; undo() = 5; smoke(0) = 1; count(6) = 6; smoke(1) = 1; smoke(2) = 1; count(6) = 8;"
            + "smoke(3) = 1; count(6) = 8; undo() = 7; undo() = 6; undo() = 5; undo() = 4; count(3) = 0; count(2) = 5;"
            + "undo() = 3; undo() = 2; undo() = 1; undo() = 0; count(2) = 1").unchanged("undo() = NO");
    }

    private static void refusedActsCanNotBeUndone() {
        Check.sentence("nothing changes then.");
        House x = new House().due("smoke(9) = 1").unchanged("pass(0) = BAD; pay(0, 0) = BAD; change(1, 1) = BAD; smoke(24) = BAD");
        x.due("count(6) = 1; undo() = 0; count(3) = 0").unchanged("undo() = NO");
        House full = new House();
        for (int s = 0; s < 8; s++) {
            full.due("smoke(" + s + ") = 1");
        }
        full.unchanged("pass(31) = BAD; pay(5, 1) = BAD; change(0, 5) = BAD; smoke(-1) = BAD").due("count(6) = 8; undo() = 7");
    }

    private static void whatIsNoAct() {
        Check.sentence("UNDONE is the latest of these");
        House x = new House().due("smoke(9) = 1").tell("t0,").due("look(1, 1) = 1; keep() = 1; forget() = 1; wipe() = 3; count(6) = 1");
        x.due("order(-1) = 1; weeks(1, 60, 0) = 0; count(6) = 1; undo() = 0; count(7) = 1; count(3) = 0");
    }

    private static void fiveHundredAndTwelveCalls() {
        Check.sentence("An object is used for at most 512 calls after it has been made");
        House x = new House();
        for (int n = 1; n <= 127; n++) {
            x.due("pass(7) = " + 7 * n + "; pay(2, 56) = 0; smoke(3) = " + n % 2 + "; write(98) = " + n);
        }
        x.due("undo() = 7; stripe(3, 2) = 0; count(2) = 889; weeks(9999, 60, 1) = 0");
        Check.due("calls made", x.calls(), 512);
    }
}

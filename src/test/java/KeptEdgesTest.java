/** Each sentence on what is kept that names a boundary, on both sides of it: promises 30 to 32. */
public final class KeptEdgesTest {
    public static void main(String[] args) {
        twoAtMost();
        keepingChangesNothingElse();
        nothingKept();
        asKeptLast();
        twoThatAreAlike();
        nothingIsUndoneThen();
        whatIsKept();
        whatIsNotKept();
        roomAgain();
        countsFrom0To8();
        countsAtTheirMost();
        Check.end();
    }

    private static void twoAtMost() {
        Check.sentence("KEPT are NIGHTS, ARREARS, places, panes: 2 at most.");
        House x = new House().due("count(7) = 0; keep() = 1; count(7) = 1; pass(1) = 1; keep() = 2; count(7) = 2; pass(1) = 2");
        x.unchanged("keep() = FULL; keep() = FULL").due("count(7) = 2; count(2) = 2; back() = 1; count(2) = 1; back() = 0; count(2) = 0");
    }

    private static void keepingChangesNothingElse() {
        Check.sentence("KEPT: how many.");
        House x = new House().due("pass(3) = 3; smoke(1) = 1; change(0, 1) = 6; look(1, 1) = 1");
        String ahead = Check.stateOf(x);
        x.due("keep() = 1; count(6) = 3; count(5) = 1");
        Check.holds("the state stays", ahead.equals(Check.stateOf(x)));
        x.due("undo() = 2; tenant(0, 1) = 0; count(7) = 1; back() = 0; tenant(0, 1) = 6");
    }

    private static void nothingKept() {
        Check.sentence("As KEPT last: how many are left; nothing is UNDONE then. NO.");
        House x = new House().due("pass(3) = 3; smoke(1) = 1; look(1, 1) = 1").unchanged("back() = NO; back() = NO");
        x.due("count(6) = 2; undo() = 1; keep() = 1; back() = 0").unchanged("back() = NO").due("count(2) = 3; count(7) = 0");
    }

    private static void asKeptLast() {
        Check.sentence("As KEPT last: how many are left");
        House x = new House().due("smoke(0) = 1; keep() = 1; smoke(1) = 1; keep() = 2; smoke(2) = 1; back() = 1; count(3) = 2");
        x.due("stripe(1, 2) = 1; stripe(2, 2) = 0; back() = 0; count(3) = 1; stripe(0, 2) = 1; stripe(1, 2) = 0").unchanged("back() = NO");
    }

    private static void twoThatAreAlike() {
        Check.sentence("KEPT: how many.");
        new House().due("pass(2) = 2; keep() = 1; keep() = 2; pass(1) = 3; back() = 1; count(2) = 2; pass(5) = 7; back() = 0; count(2) = 2");
    }

    private static void nothingIsUndoneThen() {
        Check.sentence("nothing is UNDONE then");
        House x = new House().due("pass(2) = 2; smoke(3) = 1; keep() = 1; pass(1) = 3; count(6) = 3; back() = 0; count(6) = 0");
        x.unchanged("undo() = NO").due("count(2) = 2; count(3) = 1; smoke(4) = 1; count(6) = 1; undo() = 0; count(3) = 1; count(2) = 2");
        House full = new House().due("keep() = 1");
        for (int s = 0; s < 9; s++) {
            full.due("smoke(" + s + ") = 1");
        }
        full.due("count(6) = 8; back() = 0; count(6) = 0; count(3) = 0").unchanged("undo() = NO");
        for (int s = 0; s < 9; s++) {
            full.due("smoke(" + s + ") = 1; count(6) = " + Math.min(8, s + 1));
        }
        for (int left = 7; left >= 0; left--) {
            full.due("undo() = " + left + "; count(3) = " + (left + 1));
        }
        full.unchanged("undo() = NO");
    }

    private static void whatIsKept() {
        Check.sentence("KEPT are NIGHTS, ARREARS, places, panes");
        House x = Check.laid("t0,23,12,3,1;t1,0,1,4,2;").due("pass(5) = 5; pay(0, 7) = 8; change(0, 1) = 0; smoke(23) = 1; smoke(0) = 1");
        String kept = Check.stateOf(x);
        x.due("keep() = 1; pass(30) = 35; pay(1, 99) = 41; change(1, 0) = 0; smoke(23) = 0; smoke(9) = 1; back() = 0; count(2) = 5;"
            + "tenant(0, 5) = 8; tenant(1, 5) = 20; tenant(0, 1) = 0; tenant(0, 2) = 1; tenant(1, 1) = 23; tenant(1, 2) = 12;"
            + "stripe(23, 2) = 1; stripe(0, 2) = 1; stripe(9, 2) = 0; count(3) = 2");
        Check.holds("all is as kept", kept.equals(Check.stateOf(x)));
    }

    private static void whatIsNotKept() {
        Check.sentence("KEPT are NIGHTS, ARREARS, places, panes");
        House x = new House().tell("t0").due("look(1, 1) = 1; keep() = 1").tell(",5").due("look(2, 2) = 2; back() = 0; count(8) = 4;"
            + "count(5) = 2; keep() = 1; forget() = 2; wipe() = 4; back() = 0; count(8) = 0; count(5) = 0");
        Check.due("count(0)", x.count(0), 5);
    }

    private static void roomAgain() {
        Check.sentence("2 at most");
        House x = new House();
        for (int round = 1; round <= 5; round++) {
            x.due("keep() = 1; pass(1) = 1; keep() = 2").due("keep() = FULL; pass(2) = 3; back() = 1; count(2) = 1; pass(3) = 4; keep() = 2");
            x.due("pass(1) = 5; keep() = FULL; back() = 1; count(2) = 4; back() = 0; count(2) = 0; back() = NO");
        }
    }

    private static void countsFrom0To8() {
        Check.sentence("2 the NIGHT, 3 SMOKED, 4 BEHIND, 5 LOOKED AT, 6 that can be UNDONE, 7 KEPT, 8 letters of THE TEXT. BAD.");
        House x = Check.laid("t0,0,2,9,0;t1,2,2,8,0;t2,4,2,3,0;s0,2;s2,4;b20;").due("pass(3) = 3; smoke(5) = 1; smoke(20) = 1;"
            + "smoke(0) = 1; look(1, 1) = 1; look(1, 2) = 2; look(1, 3) = 3; look(1, 4) = 4; look(2, 4) = 5; keep() = 1");
        x.unchanged("count(0) = 3; count(1) = 2; count(2) = 3; count(3) = 3; count(4) = 2; count(5) = 5; count(6) = 4; count(7) = 1;"
            + "count(8) = 47");
        x.unchanged("count(9) = BAD; count(-1) = BAD; count(10) = BAD; count(MAX) = BAD; count(MIN) = BAD");
    }

    private static void countsAtTheirMost() {
        Check.sentence("How many: 0 TENANTS, 1 SHIPS");
        House x = Check.laid("t0,0,1,20,0;".repeat(6) + "s0,1;".repeat(5) + "b0;" + "b1;".repeat(33)).due("count(8) = 199; write(98) = 200");
        for (int s = 0; s < 24; s++) {
            x.due("smoke(" + s + ") = 1");
        }
        for (int many = 1; many <= 8; many++) {
            x.due("look(0, 0) = " + many);
        }
        x.due("pass(1) = 1; keep() = 1; keep() = 2; count(0) = 6; count(1) = 5; count(2) = 1; count(3) = 24; count(4) = 6; count(5) = 8;"
            + "count(6) = 8; count(7) = 2; count(8) = 200");
    }
}

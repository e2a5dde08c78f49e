/** Each sentence on THE TEXT that names a boundary, on both sides of it: promises 1 to 5. */
public final class TextEdgesTest {
    private static final String ONE = "t0,0,1,0,0;";
    /** One ITEM of each kind, with numbers that are all told. */
    private static final String[] ITEMS = {"t1,2,3,4,1;", "s1,2;", "f1,2,3;", "b1;"};

    public static void main(String[] args) {
        atFirst();
        firstLetterAndLastLetter();
        roomOf200();
        fullTextIsLaid();
        noRoomForTheLastSign();
        wipingEmptyAndFull();
        emptyText();
        itemsOneBehindTheOther();
        letterOfAnItem();
        figuresOfANumber();
        signsAroundFigures();
        partedByCommas();
        endOfAnItem();
        tooFewAndTooManyNumbers();
        numbersOfATenant();
        numbersOfAShip();
        numbersOfFog();
        fogTogether();
        numberOfBehind();
        sixTenants();
        fiveShips();
        fogWithout();
        fogTheLastOne();
        fogThatIsLeft();
        behindWithout();
        behindTheLastOne();
        placeOfTheFault();
        faultOfTheLastLetter();
        faultChangesNothing();
        layRefused();
        layOfOneTenant();
        layBeginsAnew();
        layLeavesTheText();
        Check.end();
    }

    private static void dueFaults(String item) {
        Check.dueFault(item, 0);
        Check.dueFault(ONE + item, ONE.length());
    }

    private static void dueNoFault(String item) {
        Check.dueFault(item, LetByColours.NONE);
        Check.dueFault(ONE + item, LetByColours.NONE);
    }

    private static void atFirst() {
        Check.sentence("at first t0,0,6,5,0;t1,6,4,3,1;t2,9,5,8,2;t3,16,6,1,0;t1,20,2,2,3;s0,6;s8,4;s15,5;s22,4;f4,3,2;b20;");
        new House().due("count(0) = 5; count(1) = 4; count(2) = 0; count(3) = 0; count(4) = 0; count(5) = 0; count(6) = 0;"
            + "count(7) = 0; count(8) = 0; tenant(4, 1) = 20; tenant(5, 1) = BAD; ship(3, 0) = 22; ship(4, 0) = BAD");
        new House().due("undo() = NO; back() = NO; forget() = 0; wipe() = 0; fault() = NONE");
        House told = Check.laid("t0,0,6,5,0;t1,6,4,3,1;t2,9,5,8,2;t3,16,6,1,0;t1,20,2,2,3;s0,6;s8,4;s15,5;s22,4;f4,3,2;b20;");
        told.wipe();
        Check.holds("as if it had been told", Check.wholeOf(told).equals(Check.wholeOf(new House())));
    }

    private static void firstLetterAndLastLetter() {
        Check.sentence("A letter (32 to 126, as in ASCII) comes behind THE TEXT: how long it is.");
        new House().due("write(32) = 1; write(126) = 2; write(33) = 3; write(125) = 4")
            .unchanged("write(31) = BAD; write(127) = BAD; write(0) = BAD; write(-1) = BAD; write(128) = BAD;"
                + "write(160) = BAD; write(288) = BAD; write(65568) = BAD; write(MAX) = BAD; write(MIN) = BAD")
            .due("write(32) = 5");
        for (int from = 32; from <= 126; from++) {
            new House().due("write(" + from + ") = 1");
        }
    }

    private static void roomOf200() {
        Check.sentence("A TEXT is letters (200 at most)");
        House x = new House().tell("b1;".repeat(66)).due("write(116) = 199; count(8) = 199; write(48) = 200; count(8) = 200");
        x.unchanged("write(44) = FULL; write(32) = FULL; write(126) = FULL");
        Check.sentence("BAD; FULL. .. Of several the first");
        x.unchanged("write(31) = BAD; write(127) = BAD");
    }

    private static void fullTextIsLaid() {
        Check.sentence("A TEXT is letters (200 at most)");
        House x = new House().tell(ONE + "b1;".repeat(62) + "b2").due("write(59) = 200");
        x.unchanged("write(59) = FULL").due("fault() = NONE; lay() = 1; count(8) = 200");
        x.unchanged("write(59) = FULL");
    }

    private static void noRoomForTheLastSign() {
        Check.sentence("A TEXT is letters (200 at most)");
        House x = new House().tell(ONE + "b1;".repeat(62) + "b10").due("count(8) = 200");
        x.unchanged("write(59) = FULL; fault() = 197; lay() = NO");
    }

    private static void wipingEmptyAndFull() {
        Check.sentence("THE TEXT is empty: how long it was.");
        new House().unchanged("wipe() = 0").due("count(8) = 0; write(98) = 1; wipe() = 1; count(8) = 0; wipe() = 0; fault() = NONE");
        House full = new House().tell(ONE + "x".repeat(189)).due("fault() = 11; wipe() = 200; count(8) = 0; fault() = NONE");
        full.tell(ONE).due("fault() = NONE; lay() = 1");
        House half = new House().tell("t0,0,").due("wipe() = 5").tell("1,0,0;").due("fault() = 0");
        Check.due("what is laid stays", half.count(0), 5);
    }

    private static void emptyText() {
        Check.sentence("LAID is a TEXT without FAULT, of a TENANT at least (NO else");
        new House().due("pass(3) = 3; smoke(2) = 1; look(1, 1) = 1; keep() = 1").unchanged("fault() = NONE; lay() = NO");
        new House().tell(ONE).due("wipe() = 11").unchanged("fault() = NONE; lay() = NO");
    }

    private static void itemsOneBehindTheOther() {
        Check.sentence("ITEMS one behind the other");
        for (String item : ITEMS) {
            for (String next : ITEMS) {
                Check.dueFault(item + next, LetByColours.NONE);
                Check.dueFault(" " + item + next, 0);
                for (String between : new String[] {" ", ";", ",", "0", "x"}) {
                    Check.dueFault(item + between + next, item.length());
                }
                Check.dueFault(item + next + " ", item.length() + next.length());
            }
        }
    }

    private static void letterOfAnItem() {
        Check.sentence("each a letter, then numbers (one or two figures) parted by , and a ; behind the last one");
        String[] numbers = {"1;", "1,2;", "1,2,3;", "1,2,3,4;", "1,2,3,4,1;", "1,2,3,4,1,1;"};
        for (char letter = 32; letter <= 126; letter++) {
            for (int n = 0; n < numbers.length; n++) {
                boolean told = letter == 'b' && n == 0 || letter == 's' && n == 1 || letter == 'f' && n == 2
                    || letter == 't' && n == 4;
                Check.dueFault(letter + numbers[n], told ? LetByColours.NONE : 0);
            }
        }
    }

    /** The item with one of its numbers (0 first) told by other letters. */
    private static String with(String item, int place, String letters) {
        String[] numbers = item.substring(1, item.length() - 1).split(",");
        numbers[place] = letters;
        return item.charAt(0) + String.join(",", numbers) + ";";
    }

    private static int numbersOf(String item) {
        return item.split(",").length;
    }

    private static void figuresOfANumber() {
        Check.sentence("numbers (one or two figures)");
        for (String item : ITEMS) {
            for (int place = 0; place < numbersOf(item); place++) {
                dueNoFault(with(item, place, "1"));
                dueNoFault(with(item, place, "01"));
                dueFaults(with(item, place, ""));
                dueFaults(with(item, place, "001"));
                dueFaults(with(item, place, "100"));
                dueFaults(with(item, place, "0001"));
            }
        }
        Check.laid("t03,09,08,07,03;s05,06;").due("tenant(0, 0) = 3; tenant(0, 1) = 9; tenant(0, 2) = 8; tenant(0, 3) = 7;"
            + "tenant(0, 4) = 3; ship(0, 0) = 5; ship(0, 1) = 6");
        Check.laid("t3,10,11,20,3;s21,12;").due("tenant(0, 1) = 10; tenant(0, 2) = 11; tenant(0, 3) = 20; ship(0, 0) = 21;"
            + "ship(0, 1) = 12");
    }

    private static void signsAroundFigures() {
        Check.sentence("numbers (one or two figures)");
        for (String item : ITEMS) {
            for (int place = 0; place < numbersOf(item); place++) {
                for (String sign : new String[] {"/", ":", " ", "-", "+", ".", "a", "o", "~"}) {
                    dueFaults(with(item, place, sign));
                    dueFaults(with(item, place, sign + "1"));
                    dueFaults(with(item, place, "1" + sign));
                }
            }
        }
        dueNoFault("b0;");
        dueNoFault("b9;");
    }

    private static void partedByCommas() {
        Check.sentence("parted by ,");
        for (String item : ITEMS) {
            for (int at = 0; at < item.length(); at++) {
                for (char sign = 32; item.charAt(at) == ',' && sign <= 126; sign++) {
                    String other = item.substring(0, at) + sign + item.substring(at + 1);
                    Check.dueFault(other, sign == ',' ? LetByColours.NONE : 0);
                }
            }
        }
        for (String item : new String[] {"s1,,2;", "s,1,2;", "s1,2,;", "f1,,2,3;", "t1,2,3,4,1,;", "t1,2,3,,4,1;", "b,1;", "b1,;"}) {
            dueFaults(item);
        }
    }

    private static void endOfAnItem() {
        Check.sentence("and a ; behind the last one");
        for (String item : ITEMS) {
            for (int length = 1; length < item.length(); length++) {
                dueFaults(item.substring(0, length));
            }
            String open = item.substring(0, item.length() - 1);
            for (char sign = 32; sign <= 126; sign++) {
                Check.dueFault(open + sign, sign == ';' ? LetByColours.NONE : 0);
                Check.dueFault(item + open + sign, sign == ';' ? LetByColours.NONE : item.length());
            }
            Check.dueFault(item + ";", item.length());
            Check.dueFault(open + "," + item, 0);
        }
    }

    private static void tooFewAndTooManyNumbers() {
        Check.sentence("each a letter, then numbers");
        for (String item : ITEMS) {
            dueNoFault(item);
            dueFaults(item.substring(0, item.length() - 1) + ",1;");
            dueFaults(item.charAt(0) + ";");
            int last = item.lastIndexOf(',');
            if (last > 0) {
                dueFaults(item.substring(0, last) + ";");
            }
        }
    }

    /** Of all numbers of one or two figures those from low to high are told in the place of the sign #. */
    private static void dueFromTo(String item, int low, int high) {
        for (int number = 0; number <= 99; number++) {
            boolean told = number >= low && number <= high;
            String one = item.replace("#", "" + number);
            Check.dueFault(one, told ? LetByColours.NONE : 0);
            Check.dueFault("s0,1;" + one, told ? LetByColours.NONE : 5);
        }
    }

    private static void numbersOfATenant() {
        Check.sentence("a TENANT of COLOUR C (0 RED, 1 GREEN, 2 WHITE, 3 BLUE)");
        dueFromTo("t#,0,1,0,0;", 0, 3);
        Check.laid("t0,0,1,0,0;t1,1,1,0,0;t2,2,1,0,0;t3,3,1,0,0;").due("stripe(0, 0) = 0; stripe(1, 0) = 1; stripe(2, 0) = 2;"
            + "stripe(3, 0) = 3; stripe(4, 0) = 4");
        Check.sentence("on STRIPES A (0 to 23) and on");
        dueFromTo("t0,#,1,0,0;", 0, 23);
        Check.sentence("N (1 to 12) of them");
        dueFromTo("t0,0,#,0,0;", 1, 12);
        Check.sentence("at a RENT of R (0 to 20) a night");
        dueFromTo("t0,0,1,#,0;", 0, 20);
        Check.sentence("of KIND K (0 PLAIN, 1 LUNAR, 2 SHARING, 3 PROUD)");
        dueFromTo("t0,0,1,0,#;", 0, 3);
        Check.laid("t0,0,1,0,0;t3,23,12,20,3;").due("tenant(0, 0) = 0; tenant(0, 1) = 0; tenant(0, 2) = 1; tenant(0, 3) = 0;"
            + "tenant(0, 4) = 0; tenant(1, 0) = 3; tenant(1, 1) = 23; tenant(1, 2) = 12; tenant(1, 3) = 20; tenant(1, 4) = 3");
    }

    private static void numbersOfAShip() {
        Check.sentence("a SHIP that sees STRIPES A (0 to 23) and on, N (1 to 12) of them");
        dueFromTo("s#,1;", 0, 23);
        dueFromTo("s0,#;", 1, 12);
        Check.laid(ONE + "s0,1;s23,12;").due("ship(0, 0) = 0; ship(0, 1) = 1; ship(1, 0) = 23; ship(1, 1) = 12");
    }

    private static void numbersOfFog() {
        Check.sentence("FOG is 0 by P (0 to 10) of ten, 1 by Q, 2 by R");
        dueFromTo("f#,0,0;", 0, 10);
        dueFromTo("f0,#,0;", 0, 10);
        dueFromTo("f0,0,#;", 0, 10);
    }

    private static void fogTogether() {
        Check.sentence("(P, Q, R together 10 at most)");
        for (int p = 0; p <= 11; p++) {
            for (int q = 0; q <= 11; q++) {
                for (int r = 0; r <= 11; r++) {
                    Check.dueFault("f" + p + "," + q + "," + r + ";", p + q + r <= 10 ? LetByColours.NONE : 0);
                }
            }
        }
        dueFaults("f99,99,99;");
    }

    private static void numberOfBehind() {
        Check.sentence("who is more than N (0 to 60) in ARREARS is BEHIND");
        dueFromTo("b#;", 0, 60);
        Check.laid("t0,0,1,1,0;b0;").due("tenant(0, 6) = 0; pass(1) = 1; tenant(0, 6) = 1; pay(0, 1) = 0; tenant(0, 6) = 0");
        Check.laid("t0,0,1,1,0;b1;").due("pass(1) = 1; tenant(0, 6) = 0; stripe(0, 0) = 0; pass(1) = 2; tenant(0, 6) = 1;"
            + "stripe(0, 0) = 4");
        Check.laid("t0,0,1,1,0;b60;").due("pass(30) = 30; pass(30) = 60; tenant(0, 5) = 60; tenant(0, 6) = 0; count(4) = 0;"
            + "pass(1) = 61; tenant(0, 5) = 61; tenant(0, 6) = 1; count(4) = 1; pay(0, 1) = 60; tenant(0, 6) = 0");
    }

    private static void sixTenants() {
        Check.sentence("6 at most, 0, 1, ..");
        String six = "t0,0,1,0,0;t0,1,2,1,1;t1,2,3,2,2;t1,3,4,3,3;t2,4,5,4,0;t3,5,6,5,1;";
        Check.dueFault(six, LetByColours.NONE);
        Check.dueFault(six + ONE, 66);
        Check.dueFault(six + "s0,1;" + ONE, 71);
        Check.dueFault(ONE + six, 66);
        House x = Check.laid(six);
        for (int i = 0; i < 6; i++) {
            x.due("tenant(" + i + ", 1) = " + i + "; tenant(" + i + ", 2) = " + (i + 1) + "; tenant(" + i + ", 3) = " + i);
        }
        x.due("count(0) = 6; tenant(6, 0) = BAD");
        x.tell(ONE).unchanged("lay() = NO").due("count(0) = 6; wipe() = 77; count(0) = 6");
    }

    private static void fiveShips() {
        Check.sentence("5 at most, 0, 1, ..");
        String five = "s0,1;s1,2;s2,3;s3,4;s4,5;";
        Check.dueFault(five, LetByColours.NONE);
        Check.dueFault(five + "s5,6;", 25);
        Check.dueFault(five + ONE + "s5,6;", 36);
        House x = Check.laid(ONE + five);
        for (int k = 0; k < 5; k++) {
            x.due("ship(" + k + ", 0) = " + k + "; ship(" + k + ", 1) = " + (k + 1));
        }
        x.due("count(1) = 5; ship(5, 0) = BAD");
        x.tell("s5,6;").unchanged("lay() = NO").due("count(1) = 5; ship(5, 0) = BAD");
        Check.laid(ONE).due("count(1) = 0; ship(0, 0) = BAD");
    }

    /** A light of each colour, and ships with a sign in FOG 0, in 0 and 1, in 0 to 2, in all. */
    private static final String FOUR = "t3,0,1,0,0;t2,1,1,0,0;t1,2,1,0,0;t0,3,1,0,0;s0,1;s1,1;s2,1;s3,1;";

    private static void dueOdds(String text, int... tenths) {
        House x = Check.laid(text);
        for (int k = 0; k < tenths.length; k++) {
            Check.due("odds of ship " + k + " by " + text, x.odds(k, 0) * 10, tenths[k] * x.odds(k, 1));
        }
    }

    private static void fogWithout() {
        Check.sentence("(4, 3, 2 without; the last one)");
        dueOdds(FOUR, 4, 7, 9, 10);
        dueOdds(FOUR + "f4,3,2;", 4, 7, 9, 10);
        House x = Check.laid(FOUR + "f0,0,0;").due("odds(0, 0) = 0");
        Check.write(x, FOUR);
        x.due("lay() = 4; odds(0, 0) = 2; odds(0, 1) = 5; odds(1, 0) = 7; odds(2, 0) = 9");
    }

    private static void fogTheLastOne() {
        Check.sentence("(4, 3, 2 without; the last one)");
        dueOdds(FOUR + "f0,0,0;f1,2,3;", 1, 3, 6, 10);
        dueOdds(FOUR + "f1,2,3;f0,0,0;", 0, 0, 0, 10);
        dueOdds("f10,0,0;" + FOUR + "f1,1,1;f2,2,2;", 2, 4, 6, 10);
    }

    private static void fogThatIsLeft() {
        Check.sentence("3 by what is left");
        dueOdds(FOUR + "f0,0,0;", 0, 0, 0, 10);
        dueOdds(FOUR + "f10,0,0;", 10, 10, 10, 10);
        dueOdds(FOUR + "f0,10,0;", 0, 10, 10, 10);
        dueOdds(FOUR + "f0,0,10;", 0, 0, 10, 10);
        dueOdds(FOUR + "f3,3,3;", 3, 6, 9, 10);
        dueOdds(FOUR + "f3,3,4;", 3, 6, 10, 10);
    }

    private static void behindWithout() {
        Check.sentence("(20 without; the last one)");
        Check.laid("t0,0,1,1,0;").due("pass(20) = 20; tenant(0, 6) = 0; pass(1) = 21; tenant(0, 6) = 1");
        House x = Check.laid("t0,0,1,1,0;b0;").due("pass(1) = 1; tenant(0, 6) = 1");
        Check.write(x, "t0,0,1,1,0;");
        x.due("lay() = 1; pass(20) = 20; tenant(0, 6) = 0; pass(1) = 21; tenant(0, 6) = 1");
    }

    private static void behindTheLastOne() {
        Check.sentence("(20 without; the last one)");
        Check.laid("t0,0,1,1,0;b0;b3;").due("pass(3) = 3; tenant(0, 6) = 0; pass(1) = 4; tenant(0, 6) = 1");
        Check.laid("b3;t0,0,1,1,0;b60;b0;").due("pass(1) = 1; tenant(0, 6) = 1");
    }

    private static void placeOfTheFault() {
        Check.sentence("FAULT: the place of the first letter of the first ITEM that is not so.");
        Check.dueFault("x", 0);
        Check.dueFault("b1;x", 3);
        Check.dueFault("b61;b61;", 0);
        Check.dueFault("b1;b61;x", 3);
        Check.dueFault("b1;b6", 3);
        Check.dueFault("b1;t0,0,1,0,9;", 3);
        Check.dueFault("b10;s1,2;f9,9,9;t", 9);
    }

    private static void faultOfTheLastLetter() {
        Check.sentence("FAULT: the place of the first letter of the first ITEM that is not so.");
        String most = "b10;" + "b1;".repeat(65);
        Check.dueFault(most, LetByColours.NONE);
        Check.dueFault(most + "b", 199);
        Check.dueFault("b1;".repeat(66) + "b1", 198);
        Check.dueFault("b1;".repeat(65) + "s0,1;", LetByColours.NONE);
        Check.dueFault("b1;".repeat(65) + "s0,13", 195);
    }

    private static void faultChangesNothing() {
        Check.sentence("FAULT. NONE.");
        House x = Check.laid("t1,3,2,7,0;s4,5;b1;f1,1,1;").due("pass(1) = 1; smoke(3) = 1; look(3, 4) = 1; keep() = 1");
        x.unchanged("fault() = NONE").tell("t0,9,9,9,1;s7,7;f0,0,0;b9;").unchanged("fault() = NONE");
        x.tell("x").unchanged("fault() = 52; fault() = 52");
    }

    private static void layRefused() {
        Check.sentence("LAID is a TEXT without FAULT, of a TENANT at least (NO else");
        for (String text : new String[] {"", "s0,1;", "f1,1,1;", "b1;", "s0,1;f1,1,1;b1;", ONE + "x", "x" + ONE, ONE + "b61;",
            "t0,0,0,0,0;", "t0,0,1,0,0", ONE.repeat(7)}) {
            House x = new House().due("pass(3) = 3; smoke(2) = 1; change(0, 4) = 20; look(1, 1) = 1; keep() = 1; pay(2, 1) = 23");
            x.tell(text).unchanged("lay() = NO").due("count(0) = 5; count(2) = 3; undo() = 3; back() = 0");
        }
    }

    private static void layOfOneTenant() {
        Check.sentence("LAID is a TEXT without FAULT, of a TENANT at least (NO else");
        new House().tell(ONE).due("lay() = 1; count(0) = 1; count(1) = 0; tenant(0, 2) = 1; tenant(1, 2) = BAD");
        new House().tell("s0,1;b1;" + ONE).due("lay() = 1; count(1) = 1");
        new House().tell(ONE.repeat(6)).due("lay() = 6; tenant(5, 0) = 0");
    }

    private static void layBeginsAnew() {
        Check.sentence("NIGHT 0, no ARREARS, no SMOKE, nothing LOOKED AT, UNDONE, KEPT.");
        House x = Check.laid("t0,0,1,9,0;t1,5,2,8,0;s0,3;");
        x.due("pass(30) = 30; smoke(0) = 1; smoke(23) = 1; change(0, 1) = 5; look(0, 0) = 1; keep() = 1; keep() = 2");
        x.due("lay() = 2; count(2) = 0; count(3) = 0; count(4) = 0; count(5) = 0; count(6) = 0; count(7) = 0; owed(0) = 0;"
            + "tenant(0, 5) = 0; tenant(1, 5) = 0; tenant(0, 1) = 0; tenant(0, 2) = 1; tenant(1, 1) = 5; stripe(0, 2) = 0;"
            + "stripe(23, 2) = 0; stripe(0, 0) = 0").unchanged("undo() = NO; back() = NO; forget() = 0");
    }

    private static void layLeavesTheText() {
        Check.sentence("LAID: how many TENANTS");
        new House().tell(ONE).due("lay() = 1; count(8) = 11; lay() = 1; fault() = NONE").tell(ONE).due("lay() = 2; wipe() = 22")
            .unchanged("lay() = NO").due("count(0) = 2");
    }
}

/** Promises 1 to 8: a new object, write, wipe, fault, lay, tenant, ship, stripe. */
public final class LeasesTest {
    private static final String FIRST =
        "t0,0,6,5,0;t1,6,4,3,1;t2,9,5,8,2;t3,16,6,1,0;t1,20,2,2,3;s0,6;s8,4;s15,5;s22,4;f4,3,2;b20;";

    public static void main(String[] args) {
        newObject();
        writing();
        wiping();
        faultOfForm();
        faultOfNumbers();
        faultOfTooMany();
        laying();
        layingRefused();
        layingForgets();
        faultLeavesWhatIsLaid();
        tenants();
        ships();
        stripes();
        stripesByKind();
        Check.end();
    }

    private static void newObject() {
        House x = new House();
        int[] counts = {5, 4, 0, 0, 0, 0, 0, 0, 0};
        for (int what = 0; what < counts.length; what++) {
            Check.due("count(" + what + ")", x.count(what), counts[what]);
        }
        Check.dueColours("at first", x, "000000111142424433333344");
        Check.due("fault()", x.fault(), LetByColours.NONE);
        Check.due("lay() of nothing", x.lay(), LetByColours.NO);
        House told = Check.laid(FIRST);
        Check.holds("at first the first text is laid", Check.stateOf(told).equals(Check.stateOf(x)));
        for (int k = 0; k < 4; k++) {
            Check.due("ship(" + k + ", 0)", x.ship(k, 0), told.ship(k, 0));
            Check.due("ship(" + k + ", 1)", x.ship(k, 1), told.ship(k, 1));
        }
        Check.due("a second new object knows nothing of the first", new House().count(8), 0);
    }

    private static void writing() {
        House x = new House();
        Check.due("write(32)", x.write(32), 1);
        Check.due("write(126)", x.write(126), 2);
        for (int letter : new int[] {31, 127, -1, 0, Integer.MIN_VALUE, Integer.MAX_VALUE, 32 + 65536}) {
            Check.dueUnchanged("write(" + letter + ")", x, () -> x.write(letter), LetByColours.BAD);
        }
        for (int length = 3; length <= 200; length++) {
            Check.due("write(65)", x.write(65), length);
        }
        Check.dueUnchanged("write(65) behind 200", x, () -> x.write(65), LetByColours.FULL);
        Check.dueUnchanged("write(31) behind 200", x, () -> x.write(31), LetByColours.BAD);
        Check.due("count(8)", x.count(8), 200);
    }

    private static void wiping() {
        House x = new House();
        Check.due("wipe() of nothing", x.wipe(), 0);
        Check.write(x, "t4");
        Check.due("fault()", x.fault(), 0);
        Check.due("wipe()", x.wipe(), 2);
        Check.due("wipe() again", x.wipe(), 0);
        Check.due("fault() of nothing", x.fault(), LetByColours.NONE);
        Check.due("what is laid stays", x.count(0), 5);
        Check.due("write(116)", x.write('t'), 1);
    }

    private static void faultOfForm() {
        Check.dueFault(FIRST, LetByColours.NONE);
        Check.dueFault("s0,1;", LetByColours.NONE);
        Check.dueFault("t00,00,01,00,03;", LetByColours.NONE);
        for (String item : new String[] {"x", "x0;", ";", ",", " ", "0", "t", "t;", "t0,0,1,0", "t0,0,1,0;", "t0,0,1,0,0",
            "t0,0,1,0,0,", "t0,0,1,0,0,0;", "t0,0,1,0,;", "t,0,1,0,0;", "t0,,1,0,0;", "t0 ,0,1,0,0;", "t 0,0,1,0,0;",
            "t0,000,1,0,0;", "t000,0,1,0,0;", "t0;0,1,0,0;", "t0,0,1,0,0.", "T0,0,1,0,0;", "t0,0,1,0,-0;", "s0,001;", "s1;",
            "s0,1,1;", "s0,1", "f1,2;", "f1,2,3,4;", "f1,2,3", "f;", "b;", "b1", "b1,;", "b001;", "b1,1;", "b/;", "b:;", "b1:;"}) {
            Check.dueFault(item, 0);
            Check.dueFault("t0,0,6,5,0;" + item, 11);
            Check.dueFault("b05;s3,4;" + item + "x", 9);
        }
        Check.dueFault("b05;x;b61;", 4);
    }

    private static void faultOfNumbers() {
        for (String item : new String[] {"t0,0,1,0,0;", "t3,23,12,20,3;", "s0,1;", "s23,12;", "f0,0,0;", "f10,0,0;", "f0,10,0;",
            "f0,0,10;", "f3,3,4;", "b0;", "b60;", "b7;f1,1,1;b8;f2,2,2;"}) {
            Check.dueFault(item, LetByColours.NONE);
        }
        for (String item : new String[] {"t4,0,1,0,0;", "t10,0,1,0,0;", "t0,24,1,0,0;", "t0,0,0,0,0;", "t0,0,13,0,0;",
            "t0,0,1,21,0;", "t0,0,1,0,4;", "t0,0,1,99,0;", "s24,1;", "s0,0;", "s0,13;", "f11,0,0;", "f0,11,0;", "f0,0,11;",
            "f10,1,0;", "f4,4,3;", "f99,99,99;", "b61;", "b99;"}) {
            Check.dueFault(item, 0);
            Check.dueFault("s0,1;" + item, 5);
        }
    }

    private static void faultOfTooMany() {
        String six = "t0,0,1,0,0;".repeat(6);
        String five = "s0,1;".repeat(5);
        Check.dueFault(six + five, LetByColours.NONE);
        Check.dueFault(six + five + "b1;", LetByColours.NONE);
        Check.dueFault(six + "t0,0,1,0,0;", 66);
        Check.dueFault(six + five + "t0,0,1,0,0;", 91);
        Check.dueFault(five + "s0,1;", 25);
        Check.dueFault(five + six + "s0,1;", 91);
        Check.dueFault("b1;".repeat(66) + "b1", 198);
        Check.dueFault("b1;".repeat(66), LetByColours.NONE);
    }

    private static void laying() {
        House x = Check.laid("b3;s23,2;t3,23,2,4,0;f1,2,3;t0,4,1,0,3;b7;f5,5,0;");
        Check.due("THE TEXT stays", x.count(8), 49);
        Check.due("count(0)", x.count(0), 2);
        Check.due("count(1)", x.count(1), 1);
        Check.due("tenant(0, 0)", x.tenant(0, 0), 3);
        Check.due("the last f holds: odds(0, 0)", x.odds(0, 0), 1);
        Check.due("the last f holds: odds(0, 1)", x.odds(0, 1), 2);
        x.pass(1);
        Check.due("the last b holds: 4 is not behind", x.tenant(0, 6), 0);
        x.pass(1);
        Check.due("the last b holds: 8 is behind", x.tenant(0, 6), 1);
        House y = Check.laid("t2,0,1,10,0;s0,1;");
        Check.due("f4,3,2 without: odds(0, 0)", y.odds(0, 0), 7);
        Check.due("f4,3,2 without: odds(0, 1)", y.odds(0, 1), 10);
        y.pass(2);
        Check.due("b20 without: 20 is not behind", y.tenant(0, 6), 0);
        y.pass(1);
        Check.due("b20 without: 30 is behind", y.tenant(0, 6), 1);
        House seven = Check.laid("t2,0,1,7,0;");
        seven.pass(3);
        Check.due("b20 without: 21 is behind", seven.tenant(0, 6), 1);
        Check.write(x, "t1,0,1,0,0;");
        Check.due("lay() of a text of one", x.lay(), 1);
        Check.due("no ships then", x.count(1), 0);
        Check.due("ship(0, 0)", x.ship(0, 0), LetByColours.BAD);
        Check.due("tenant(1, 0)", x.tenant(1, 0), LetByColours.BAD);
    }

    private static void layingRefused() {
        for (String text : new String[] {"", "s0,1;b2;f1,1,1;", "t0,0,1,0,0;x", "x", "t0,0,1,0,0;b61;"}) {
            House x = new House();
            Check.write(x, text);
            x.pass(3);
            x.smoke(4);
            x.look(1, 1);
            x.keep();
            String colours = Check.colours(x);
            Check.dueUnchanged("lay() of " + text, x, x::lay, LetByColours.NO);
            Check.holds("all shines as ahead", colours.equals(Check.colours(x)));
            Check.due("ship(3, 1)", x.ship(3, 1), 4);
        }
    }

    private static void layingForgets() {
        House x = new House();
        x.pass(5);
        x.smoke(3);
        x.change(0, 1);
        x.look(1, 1);
        x.keep();
        Check.write(x, FIRST);
        Check.due("lay()", x.lay(), 5);
        Check.holds("all is as at first", Check.stateOf(x).equals(Check.stateOf(new House())));
        for (int what = 2; what <= 7; what++) {
            Check.due("count(" + what + ")", x.count(what), 0);
        }
        Check.due("undo()", x.undo(), LetByColours.NO);
        Check.due("back()", x.back(), LetByColours.NO);
    }

    private static void faultLeavesWhatIsLaid() {
        House x = Check.laid("t1,3,2,7,0;s4,5;b1;");
        String ahead = Check.stateOf(x);
        Check.write(x, "t0,9,9,9,1;s7,7;f0,0,0;b9;");
        Check.due("fault()", x.fault(), LetByColours.NONE);
        Check.holds("fault() changes no tenant", ahead.equals(Check.stateOf(x)));
        Check.due("nor a ship", x.ship(0, 0), 4);
        x.write('x');
        Check.due("lay()", x.lay(), LetByColours.NO);
        Check.holds("a refused lay() changes no tenant", ahead.equals(Check.stateOf(x)));
        Check.due("nor a ship", x.ship(0, 1), 5);
    }

    private static void tenants() {
        House x = new House();
        int[][] due = {{0, 0, 6, 5, 0}, {1, 6, 4, 3, 1}, {2, 9, 5, 8, 2}, {3, 16, 6, 1, 0}, {1, 20, 2, 2, 3}};
        for (int i = 0; i < due.length; i++) {
            for (int what = 0; what < 5; what++) {
                Check.due("tenant(" + i + ", " + what + ")", x.tenant(i, what), due[i][what]);
            }
            Check.due("tenant(" + i + ", 5)", x.tenant(i, 5), 0);
            Check.due("tenant(" + i + ", 6)", x.tenant(i, 6), 0);
        }
        x.pass(4);
        Check.due("ARREARS of 4 nights at 5", x.tenant(0, 5), 20);
        Check.due("20 is not more than 20", x.tenant(0, 6), 0);
        Check.due("ARREARS of 4 nights at 8", x.tenant(2, 5), 32);
        Check.due("32 is", x.tenant(2, 6), 1);
        x.pay(2, 11);
        Check.due("so is 21", x.tenant(2, 6), 1);
        x.change(1, 3);
        Check.due("A changes", x.tenant(1, 1), 16);
        Check.due("N changes", x.tenant(1, 2), 6);
        Check.due("COLOUR stays", x.tenant(1, 0), 1);
        Check.due("RENT stays", x.tenant(1, 3), 3);
        Check.due("KIND stays", x.tenant(1, 4), 1);
        for (int what = 0; what <= 6; what++) {
            Check.due("tenant(5, " + what + ")", x.tenant(5, what), LetByColours.BAD);
            Check.due("tenant(-1, " + what + ")", x.tenant(-1, what), LetByColours.BAD);
        }
        Check.due("tenant(0, 7)", x.tenant(0, 7), LetByColours.BAD);
        Check.due("tenant(0, -1)", x.tenant(0, -1), LetByColours.BAD);
        Check.due("tenant(MAX, 0)", x.tenant(Integer.MAX_VALUE, 0), LetByColours.BAD);
    }

    private static void ships() {
        House x = new House();
        int[][] due = {{0, 6}, {8, 4}, {15, 5}, {22, 4}};
        for (int k = 0; k < due.length; k++) {
            Check.due("ship(" + k + ", 0)", x.ship(k, 0), due[k][0]);
            Check.due("ship(" + k + ", 1)", x.ship(k, 1), due[k][1]);
        }
        Check.due("ship(4, 0)", x.ship(4, 0), LetByColours.BAD);
        Check.due("ship(-1, 0)", x.ship(-1, 0), LetByColours.BAD);
        Check.due("ship(0, 2)", x.ship(0, 2), LetByColours.BAD);
        Check.due("ship(0, -1)", x.ship(0, -1), LetByColours.BAD);
    }

    private static void stripes() {
        House x = new House();
        int no = LetByColours.NONE;
        int[] whose = {0, 0, 0, 0, 0, 0, 1, 1, 1, 1, no, 2, no, 2, no, no, 3, 3, 3, 3, 3, 3, no, no};
        for (int s = 0; s < 24; s++) {
            Check.due("stripe(" + s + ", 1)", x.stripe(s, 1), whose[s]);
            Check.due("stripe(" + s + ", 2)", x.stripe(s, 2), 0);
        }
        x.smoke(16);
        x.smoke(23);
        Check.due("smoked is DARK", x.stripe(16, 0), 4);
        Check.due("and still his", x.stripe(16, 1), 3);
        Check.due("stripe(16, 2)", x.stripe(16, 2), 1);
        Check.due("stripe(23, 2)", x.stripe(23, 2), 1);
        Check.due("stripe(17, 2)", x.stripe(17, 2), 0);
        x.pass(21);
        Check.due("who is behind has none", x.stripe(0, 1), no);
        Check.due("who is at 21 as well", x.stripe(20, 1), no);
        for (int what = 0; what <= 2; what++) {
            Check.due("stripe(24, " + what + ")", x.stripe(24, what), LetByColours.BAD);
            Check.due("stripe(-1, " + what + ")", x.stripe(-1, what), LetByColours.BAD);
        }
        Check.due("stripe(0, 3)", x.stripe(0, 3), LetByColours.BAD);
        Check.due("stripe(0, -1)", x.stripe(0, -1), LetByColours.BAD);
    }

    private static void stripesByKind() {
        House plain = Check.laid("t3,20,12,0,0;");
        Check.dueColours("PLAIN, over 23", plain, "333333334444444444443333");
        House lunar = Check.laid("t1,22,4,0,1;t0,0,2,0,0;");
        Check.dueColours("LUNAR, even", lunar, "114444444444444444444411");
        lunar.pass(1);
        Check.dueColours("LUNAR, odd", lunar, "004444444444444444444444");
        House sharing = Check.laid("t2,21,5,0,2;");
        Check.dueColours("SHARING, even", sharing, "424444444444444444444242");
        sharing.pass(1);
        Check.dueColours("SHARING, odd", sharing, "244444444444444444444424");
        House widest = Check.laid("t2,1,12,0,2;");
        Check.dueColours("SHARING 12, even", widest, "424242424242444444444444");
        widest.pass(29);
        Check.dueColours("SHARING 12, odd", widest, "442424242424244444444444");
        House proud = Check.laid("t0,0,1,5,3;t0,1,1,5,3;t1,2,1,4,3;t1,3,1,5,0;t2,4,1,0,3;t3,5,1,19,3;b9;");
        Check.dueColours("PROUD: alike, less, alone", proud, "004123444444444444444444");
        proud.pass(2);
        Check.dueColours("PROUD: who is behind still counts", proud, "444424444444444444444444");
        House first = Check.laid("t1,2,3,20,0;t0,1,5,0,0;b10;");
        Check.dueColours("the first one by number", first, "401110444444444444444444");
        first.pass(1);
        Check.dueColours("or the next, if he is behind", first, "400000444444444444444444");
    }
}

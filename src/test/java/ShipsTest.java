/** Promises 14 to 16: seen, sign, fleet. */
public final class ShipsTest {
    public static void main(String[] args) {
        seeing();
        signs();
        signsAroundTheEnd();
        fleets();
        Check.end();
    }

    private static void seeing() {
        House x = new House();
        int[] stripes = {0, 6, 11, 16, 10};
        String[] due = {"1111", "1110", "1100", "1000", "0000"};
        for (int i = 0; i < stripes.length; i++) {
            for (int fog = 0; fog < 4; fog++) {
                Check.due("seen(" + stripes[i] + ", " + fog + ")", x.seen(stripes[i], fog), due[i].charAt(fog) - '0');
            }
        }
        x.smoke(0);
        Check.due("smoked is not seen", x.seen(0, 0), 0);
        for (int[] wrong : new int[][] {{24, 0}, {-1, 0}, {0, 4}, {0, -1}, {Integer.MAX_VALUE, 0}, {0, Integer.MIN_VALUE}}) {
            Check.due("seen(" + wrong[0] + ", " + wrong[1] + ")", x.seen(wrong[0], wrong[1]), LetByColours.BAD);
        }
    }

    private static void dueSigns(House x, int k, int... due) {
        for (int fog = 0; fog < 4; fog++) {
            Check.due("sign(" + k + ", " + fog + ")", x.sign(k, fog), due[fog]);
        }
    }

    private static void signs() {
        int no = LetByColours.NONE;
        House x = Check.laid("t3,0,2,0,0;t2,2,2,0,0;t1,4,2,0,0;t0,6,2,0,0;s0,2;s0,4;s0,6;s2,6;s8,9;");
        dueSigns(x, 0, 3, no, no, no);
        dueSigns(x, 1, 2, 2, no, no);
        dueSigns(x, 2, 1, 1, 1, no);
        dueSigns(x, 3, 0, 0, 0, 0);
        dueSigns(x, 4, no, no, no, no);
        x.smoke(5);
        x.smoke(4);
        dueSigns(x, 2, 2, 2, no, no);
        House y = Check.laid("t3,0,2,0,0;t2,1,3,0,0;t0,20,1,0,0;s0,3;s1,3;s3,1;");
        dueSigns(y, 0, 3, no, no, no);
        dueSigns(y, 1, 2, 2, no, no);
        dueSigns(y, 2, no, no, no, no);
        y.smoke(2);
        dueSigns(y, 2, 2, 2, no, no);
        Check.due("sign(3, 0)", y.sign(3, 0), LetByColours.BAD);
        Check.due("sign(-1, 0)", y.sign(-1, 0), LetByColours.BAD);
        Check.due("sign(0, 4)", y.sign(0, 4), LetByColours.BAD);
        Check.due("sign(0, -1)", y.sign(0, -1), LetByColours.BAD);
    }

    private static void signsAroundTheEnd() {
        House x = Check.laid("t0,22,4,0,0;s22,4;s23,3;s22,3;s20,12;s0,12;");
        Check.due("fleet(3)", x.fleet(3), 9);
    }

    private static void fleets() {
        House x = Check.laid("t3,0,2,0,0;t2,2,2,0,0;t1,4,2,0,0;t0,6,2,0,0;s0,2;s0,4;s0,6;s2,6;s8,9;");
        int[] due = {15, 15 - 1, 15 - 3, 8};
        for (int fog = 0; fog < 4; fog++) {
            Check.due("fleet(" + fog + ")", x.fleet(fog), due[fog]);
        }
        Check.due("fleet(-1)", x.fleet(-1), 8);
        for (int fog : new int[] {-2, 4, Integer.MAX_VALUE, Integer.MIN_VALUE}) {
            Check.due("fleet(" + fog + ")", x.fleet(fog), LetByColours.BAD);
        }
        House none = Check.laid("t0,0,1,0,0;");
        Check.due("fleet(0) without ships", none.fleet(0), 0);
        Check.due("fleet(-1) without ships", none.fleet(-1), 0);
        House all = Check.laid("t0,3,1,0,0;s3,1;s2,2;s3,2;s0,12;s16,12;");
        Check.due("fleet(-1)", all.fleet(-1), 31);
    }
}

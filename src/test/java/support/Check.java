import java.util.function.IntSupplier;

/** Counts answers that are not as due, and tells them. */
final class Check {
    private static int asked = 0;
    private static int wrong = 0;

    private Check() { }

    static void due(String call, int got, int want) {
        asked++;
        if (got != want) {
            wrong++;
            System.out.println(call + " answered " + got + ", due is " + want);
        }
    }

    static void holds(String what, boolean so) {
        due(what, so ? 1 : 0, 1);
    }

    /** Writes a text letter by letter, behind an empty one. */
    static void write(LetByColours x, String text) {
        x.wipe();
        for (int i = 0; i < text.length(); i++) {
            due("write(" + (int) text.charAt(i) + ")", x.write(text.charAt(i)), i + 1);
        }
    }

    static LetByColours laid(String text) {
        LetByColours x = new LetByColours();
        write(x, text);
        due("lay() of " + text, x.lay(), (int) text.chars().filter(c -> c == 't').count());
        return x;
    }

    static void dueFault(String text, int want) {
        LetByColours x = new LetByColours();
        write(x, text);
        due("fault() of " + text, x.fault(), want);
    }

    /** The colours of all stripes, a figure each. */
    static String colours(LetByColours x) {
        StringBuilder row = new StringBuilder();
        for (int s = 0; s < 24; s++) {
            row.append(x.stripe(s, 0));
        }
        return row.toString();
    }

    static void dueColours(String when, LetByColours x, String want) {
        String got = colours(x);
        holds(when + ": colours are " + got + ", due are " + want, got.equals(want));
    }

    /** What acts change, all that can be asked of it. */
    static String stateOf(LetByColours x) {
        StringBuilder all = new StringBuilder();
        for (int i = 0; i < x.count(0); i++) {
            for (int what = 0; what <= 6; what++) {
                all.append(x.tenant(i, what)).append(' ');
            }
        }
        for (int s = 0; s < 24; s++) {
            all.append(x.stripe(s, 2));
        }
        return all.append(" night ").append(x.count(2)).toString();
    }

    /** Everything that count tells, and the state. */
    static String wholeOf(LetByColours x) {
        StringBuilder all = new StringBuilder(stateOf(x));
        for (int what = 0; what <= 8; what++) {
            all.append(" / ").append(x.count(what));
        }
        return all.toString();
    }

    /** The call answers so, and nothing changes by it. */
    static void dueUnchanged(String call, LetByColours x, IntSupplier made, int want) {
        String ahead = wholeOf(x);
        due(call, made.getAsInt(), want);
        holds(call + " changes nothing", ahead.equals(wholeOf(x)));
    }

    static void end() {
        System.out.println(asked + " answers, " + wrong + " not as due");
        if (wrong != 0 || asked == 0) {
            System.exit(1);
        }
    }
}

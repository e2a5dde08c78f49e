import java.util.function.IntSupplier;

/** Counts answers that are not as due, and tells them. */
final class Check {
    private static int asked = 0;
    private static int wrong = 0;
    private static String sentence = "";

    private Check() { }

    /** The words of the document that what comes next is about. */
    static void sentence(String words) {
        sentence = "\"" + words + "\": ";
    }

    static void due(String call, int got, int want) {
        asked++;
        if (got != want) {
            wrong++;
            System.out.println(sentence + call + " answered " + got + ", due is " + want);
        }
    }

    static void holds(String what, boolean so) {
        due(what, so ? 1 : 0, 1);
    }

    /** Writes a text letter by letter, behind an empty one. */
    static void write(House x, String text) {
        x.wipe();
        x.tell(text);
    }

    static House laid(String text) {
        House x = new House();
        x.tell(text);
        due("lay() of " + text, x.lay(), (int) text.chars().filter(c -> c == 't').count());
        return x;
    }

    static void dueFault(String text, int want) {
        House x = new House();
        x.tell(text);
        due("fault() of " + text, x.fault(), want);
    }

    /** The colours of all stripes, a figure each. */
    static String colours(House x) {
        StringBuilder row = new StringBuilder();
        for (int s = 0; s < 24; s++) {
            row.append(x.stripe(s, 0));
        }
        return row.toString();
    }

    static void dueColours(String when, House x, String want) {
        String got = colours(x);
        holds(when + ": colours are " + got + ", due are " + want, got.equals(want));
    }

    /** What acts change, all that can be asked of it; a twin is asked, so that the house keeps its calls. */
    static String stateOf(House house) {
        House x = house.twin(0);
        StringBuilder all = new StringBuilder();
        int tenants = x.count(0);
        for (int i = 0; i < tenants; i++) {
            for (int what = 0; what <= 6; what++) {
                all.append(x.tenant(i, what)).append(' ');
            }
        }
        for (int s = 0; s < 24; s++) {
            all.append(x.stripe(s, 2));
        }
        return all.append(" night ").append(x.count(2)).toString();
    }

    /** The state, and what else there is: numbers, ships, odds of fog, what was looked at. */
    static String wholeOf(House house) {
        House x = house.twin(0);
        StringBuilder all = new StringBuilder(stateOf(x)).append(' ').append(colours(x));
        for (int what = 0; what <= 8; what++) {
            all.append(" / ").append(x.count(what));
        }
        int ships = x.count(1);
        for (int k = 0; k < ships; k++) {
            all.append(" ship ").append(x.ship(k, 0)).append(' ').append(x.ship(k, 1));
            all.append(" odds ").append(x.odds(k, 0)).append(' ').append(x.odds(k, 1));
        }
        all.append(" fault ").append(x.fault()).append(" behind ").append(x.behind(0)).append(' ').append(x.behind(1));
        all.append(" panes ").append(x.panes()).append(" weeks ").append(x.weeks(3, 60, 1));
        return all.toString();
    }

    /** By the latest call nothing changed: with it and without it all that can come behind it answers alike. */
    static void changesNothing(String call, House x) {
        dueAlike(call, wholeOf(x.twin(0)), wholeOf(x.twin(1)));
        dueAlike(call + ", one more letter", afterLetter(x.twin(0)), afterLetter(x.twin(1)));
        dueAlike(call + ", laid", afterLay(x.twin(0)), afterLay(x.twin(1)));
        for (int many = 1; many <= 9; many++) {
            dueAlike(call + ", undone " + many, afterUndo(x.twin(0), many), afterUndo(x.twin(1), many));
        }
        for (int many = 1; many <= 3; many++) {
            dueAlike(call + ", back " + many, afterBack(x.twin(0), many), afterBack(x.twin(1), many));
        }
    }

    private static void dueAlike(String call, String with, String without) {
        holds(call + " changes nothing, but with it there is " + with + ", without it " + without, with.equals(without));
    }

    private static String afterLetter(House x) {
        return x.write('x') + " " + x.fault() + " " + x.wipe();
    }

    private static String afterLay(House x) {
        return x.lay() + " " + wholeOf(x);
    }

    private static String afterUndo(House x, int many) {
        StringBuilder all = new StringBuilder();
        for (int i = 0; i < many; i++) {
            all.append(x.undo()).append(' ');
        }
        return all + stateOf(x);
    }

    private static String afterBack(House x, int many) {
        StringBuilder all = new StringBuilder();
        for (int i = 0; i < many; i++) {
            all.append(x.back()).append(' ');
        }
        return all.append(stateOf(x)).append(' ').append(x.undo()).toString();
    }

    /** The call answers so, and nothing changes by it. */
    static void dueUnchanged(String call, House x, IntSupplier made, int want) {
        due(call, made.getAsInt(), want);
        changesNothing(call, x);
    }

    static void end() {
        System.out.println(asked + " answers, " + wrong + " not as due");
        if (wrong != 0 || asked == 0) {
            System.exit(1);
        }
    }
}
